/-! PURE: minimumDegree -/
theorem sm_zero : ∀ n, sm (fun _ => 0) n = 0
  | 0 => rfl
  | n + 1 => by show sm (fun _ => 0) n + 0 = 0; rw [sm_zero n]
theorem sm_comm (f : Nat → Nat → Nat) (n : Nat) : ∀ m, sm (fun i => sm (fun j => f i j) n) m = sm (fun j => sm (fun i => f i j) m) n
  | 0 => (sm_zero n).symm
  | m + 1 => by
    show sm (fun i => sm (fun j => f i j) n) m + sm (fun j => f m j) n = sm (fun j => sm (fun i => f i j) m + f m j) n
    rw [sm_comm f n m, sm_add]
theorem sm_one (v : Nat → Nat) (c : Nat) : ∀ n, sm (fun j => if j = c then v j else 0) n = if c < n then v c else 0
  | 0 => rfl
  | n + 1 => by
    show sm (fun j => if j = c then v j else 0) n + (if n = c then v n else 0) = _
    rw [sm_one v c n]
    by_cases h : n = c
    · subst h; rw [if_neg (Nat.lt_irrefl n), if_pos rfl, if_pos (Nat.lt_succ_self n), Nat.zero_add]
    · rw [if_neg h, Nat.add_zero]
      by_cases q : c < n
      · rw [if_pos q, if_pos (show c < n + 1 by omega)]
      · rw [if_neg q, if_neg (show ¬ c < n + 1 by omega)]
theorem ct_perm {n : Nat} {σ τ : Nat → Nat} (h : ∀ k, k < n → σ k < n ∧ τ k < n ∧ τ (σ k) = k ∧ σ (τ k) = k) (q : Nat → Bool) : ct (fun m => q (σ m)) n = ct q n := by
  rw [ct_sm, ct_sm]
  have e1 : sm (fun m => if q (σ m) then 1 else 0) n = sm (fun m => sm (fun j => if j = σ m then (if q j then 1 else 0) else 0) n) n := sm_cong n (fun m hm => by rw [sm_one (fun j => if q j then 1 else 0) (σ m) n, if_pos (h m hm).1])
  rw [e1, sm_comm]
  refine sm_cong n (fun j hj => ?_)
  have e2 : sm (fun m => if j = σ m then (if q j then 1 else 0) else 0) n = sm (fun m => if m = τ j then (if q j then 1 else 0) else 0) n := sm_cong n (fun m hm => by
    by_cases e : j = σ m
    · rw [if_pos e, if_pos (show m = τ j by rw [e]; exact (h m hm).2.2.1.symm)]
    · rw [if_neg e, if_neg (fun e3 : m = τ j => e (by rw [e3]; exact (h j hj).2.2.2.symm))])
  rw [e2, sm_one (fun _ => if q j then 1 else 0) (τ j) n, if_pos (h j hj).2.1]
theorem ct_none {p : Nat → Bool} : ∀ n, (∀ k, k < n → p k = false) → ct p n = 0
  | 0, _ => rfl
  | n + 1, h => by
    show ct p n + (if p n then 1 else 0) = 0
    rw [ct_none n (fun k hk => h k (by omega)), h n (by omega)]; rfl
theorem ct_less {p : Nat → Bool} {b : Nat} (hb : p b = false) : ∀ n, b < n → ct p n < n
  | 0, h => absurd h (by omega)
  | n + 1, h => by
    show ct p n + (if p n then 1 else 0) < n + 1
    by_cases e : b = n
    · subst e
      have := ct_le p b
      rw [hb]; show ct p b + 0 < b + 1; omega
    · have := ct_less hb n (by omega)
      split <;> omega
/-- how many waiting rows are joined with row r -/
def dg (n : Nat) (J : Nat → Nat → Bool) (w : Nat → Bool) (r : Nat) : Nat := ct (fun j => J r j && w j) n
theorem WF_p {n : Nat} {A : Nat → Nat → Nat} {σ τ ri we : Nat → Nat} (hW : WF n A σ τ ri we) : ∀ k, k < n → σ k < n ∧ τ k < n ∧ τ (σ k) = k ∧ σ (τ k) = k := fun k hk => ⟨(hW.2.2.2.2.2.1 k hk).1, (hW.2.2.2.2.2.1 k hk).2, (hW.2.2.2.2.1 k (by have := hW.2.1; omega)).2.2⟩
theorem sp_degree5 {n : Nat} {A : Nat → Nat → Nat} {σ τ ri we : Nat → Nat} (hW : WF n A σ τ ri we) {mt mh ms mv : Int32} {ro ij : Nat → Int32} (hro : ∀ k, k < 16 → ro k = nI (σ k)) {J : Nat → Nat → Bool} (hJ : RI n J ij) {k p : Nat} (hk : k < n) (hp : p ≤ n) {Q : Int32 → Prop} (h : Q (nI (dg n J (fun j => decide (p ≤ τ j)) (σ k)))) : wp_X5_degree (nI k) (nI p) mt (nI n) mh ms mv ro ij Q := by
  have hn := hW.2.1
  have hs := WF_p hW
  have hsk := hs k hk
  intro G1 g1
  have k1 : ∀ m, m ≤ n → p ≤ m → G1 (nI m) (nI (ct (fun m => decide (p ≤ m) && J (σ k) (σ m)) m)) := by
    refine pu_down n ?_ ?_
    · intro _
      refine g1 _ _ ⟨fun _ => ?_, fun c => absurd (nI_le (Nat.le_refl n) (by omega)) c⟩
      have e : ct (fun m => decide (p ≤ m) && J (σ k) (σ m)) n = dg n J (fun j => decide (p ≤ τ j)) (σ k) := by
        unfold dg
        rw [← ct_perm hs (fun j => J (σ k) j && decide (p ≤ τ j))]
        exact ct_cong n (fun m hm => by rw [(hs m hm).2.2.1, Bool.and_comm])
      rw [e]; exact h
    · intro m hm ih hpm
      have hsm := hs m hm
      refine g1 _ _ ⟨fun c => absurd c (nI_ge hm (by omega)), fun _ => ?_⟩
      rw [pn_cl (show k < 2147483648 by omega), pn_cl (show m < 2147483648 by omega), hro k (by omega), hro m (by omega), pn_at, pn_cl (show 16 * σ k + σ m < 2147483648 by omega), hJ _ _ hsk.1 hsm.1]
      have e : ct (fun m => decide (p ≤ m) && J (σ k) (σ m)) (m + 1) = ct (fun m => decide (p ≤ m) && J (σ k) (σ m)) m + (if J (σ k) (σ m) then 1 else 0) := by
        show ct (fun m => decide (p ≤ m) && J (σ k) (σ m)) m + (if (decide (p ≤ m) && J (σ k) (σ m)) then 1 else 0) = _
        rw [decide_eq_true hpm, Bool.true_and]
      refine ⟨pn_in (by omega) (by decide), pn_in (by omega) (by decide), pn_in (by omega) (by decide), fun c x hx y hy => ?_, fun c x hx y hy => ?_⟩
      · rw [bz_0.mp c] at e
        rw [hy, hx, nI_1, Int32.add_zero, show ct (fun m => decide (p ≤ m) && J (σ k) (σ m)) m = ct (fun m => decide (p ≤ m) && J (σ k) (σ m)) (m + 1) from e.symm]
        exact ih (by omega)
      · have j1 : J (σ k) (σ m) = true := by cases hq : J (σ k) (σ m) with | true => rfl | false => exact absurd (by rw [hq]; rfl) c
        rw [j1] at e
        rw [hy, hx, nI_1, nI_1, show ct (fun m => decide (p ≤ m) && J (σ k) (σ m)) m + 1 = ct (fun m => decide (p ≤ m) && J (σ k) (σ m)) (m + 1) from e.symm]
        exact ih (by omega)
  have := k1 p hp (Nat.le_refl p)
  rw [ct_none p (fun q hq => by rw [decide_eq_false (show ¬ p ≤ q by omega), Bool.false_and])] at this
  exact this
/-- b is the row of the fewest, the first of several -/
def bst (n : Nat) (w : Nat → Bool) (D : Nat → Nat) (b : Nat) : Prop := b < n ∧ w b = true ∧ ∀ j, j < n → w j = true → D b < D j ∨ (D b = D j ∧ b ≤ j)
theorem bst_one {n : Nat} {w : Nat → Bool} {D : Nat → Nat} {a b : Nat} (ha : bst n w D a) (hb : bst n w D b) : a = b := by
  have h1 := ha.2.2 b hb.1 hb.2.1
  have h2 := hb.2.2 a ha.1 ha.2.1
  omega
theorem sp_lowest {n : Nat} (hn : n ≤ 16) {J : Nat → Nat → Bool} {w : Nat → Bool} {ej : Nat → Int32} (hR : RJ n J ej) (hJ : ∀ i, J i i = false) (hex : ∃ r, r < n ∧ w r = true) {Q : Int32 → Prop} (h : ∀ b, bst n w (dg n J w) b → Q (nI b)) : wp_X0_lowestDegree (nI (mk (fun j => decide (j < n) && w j))) ej Q := by
  have hD : ∀ b, b < n → dg n J w b < 16 := fun b hb => by
    have := ct_less (p := fun j => J b j && w j) (b := b) (by rw [hJ b]; rfl) n hb
    unfold dg; omega
  intro G1 g1
  suffices k1 : ∀ i, i ≤ 16 → ∀ fw be : Int32, ((be = -1 ∧ fw = nI 16 ∧ ∀ j, j < i → j < n → w j = false) ∨ (∃ b, b < n ∧ b < i ∧ w b = true ∧ be = nI b ∧ fw = nI (dg n J w b) ∧ ∀ j, j < i → j < n → w j = true → dg n J w b < dg n J w j ∨ (dg n J w b = dg n J w j ∧ b ≤ j))) → G1 (nI i) fw be from k1 0 (by omega) _ _ (Or.inl ⟨rfl, rfl, fun j hj => absurd hj (by omega)⟩)
  refine pu_down 16 ?_ ?_
  · intro fw be hI
    refine g1 _ _ _ ⟨fun _ => ?_, fun c => absurd (show nI 16 ≤ nI 16 from nI_le (Nat.le_refl 16) (by omega)) c⟩
    rcases hI with ⟨_, _, h3⟩ | ⟨b, h1, _, h3, h4, _, h6⟩
    · obtain ⟨r, hr, hw⟩ := hex
      rw [h3 r (by omega) hr] at hw
      exact absurd hw (by decide)
    · rw [h4]
      exact h b ⟨h1, h3, fun j hj hwj => h6 j (by omega) hj hwj⟩
  · intro i hi ih fw be hI
    refine g1 _ _ _ ⟨fun c => absurd c (nI_ge hi (by decide)), fun _ => ⟨pn_in hi (by decide), fun x hx => ?_⟩⟩
    rw [mk_has _ hi]
    cases hm : (decide (i < n) && w i) with
    | false =>
      refine ⟨fun _ y hy => ?_, fun c => absurd rfl c⟩
      rw [hy, nI_1]
      refine ih _ _ ?_
      have hwi : i < n → w i = false := fun hin => by rw [decide_eq_true hin, Bool.true_and] at hm; exact hm
      rcases hI with ⟨h1, h2, h3⟩ | ⟨b, h1, h2, h3, h4, h5, h6⟩
      · refine Or.inl ⟨h1, h2, fun j hj hjn => ?_⟩
        by_cases e : j = i
        · subst e; exact hwi hjn
        · exact h3 j (by omega) hjn
      · refine Or.inr ⟨b, h1, by omega, h3, h4, h5, fun j hj hjn hwj => ?_⟩
        by_cases e : j = i
        · subst e; rw [hwi hjn] at hwj; exact absurd hwj (by decide)
        · exact h6 j (by omega) hjn hwj
    | true =>
      rw [Bool.and_eq_true] at hm
      have hin : i < n := of_decide_eq_true hm.1
      have hxi : x = nI (dg n J w i) := by
        rw [hx, pn_cl (by omega), hR i hin, mk_and, mk_bc]
        congr 1
        unfold dg
        rw [← ct_cut (fun j => J i j && w j) n 16 hn]
        exact ct_cong 16 (fun j _ => by cases decide (j < n) <;> cases J i j <;> cases w j <;> rfl)
      have hDi := hD i hin
      refine ⟨fun c => absurd c (by decide), fun _ => ?_⟩
      rcases hI with ⟨h1, h2, h3⟩ | ⟨b, h1, h2, h3, h4, h5, h6⟩
      · rw [h2, hxi]
        refine pk_le 16 (dg n J w i) (fun q => absurd q (by omega)) (fun _ y hy => ?_)
        rw [hy, nI_1]
        refine ih _ _ (Or.inr ⟨i, hin, by omega, hm.2, rfl, rfl, fun j hj hjn hwj => ?_⟩)
        by_cases e : j = i
        · subst e; exact Or.inr ⟨rfl, Nat.le_refl _⟩
        · rw [h3 j (by omega) hjn] at hwj; exact absurd hwj (by decide)
      · have hDb := hD b h1
        rw [h5, hxi]
        refine pk_le (dg n J w b) (dg n J w i) (fun q y hy => ?_) (fun q y hy => ?_)
        · rw [hy, nI_1]
          refine ih _ _ (Or.inr ⟨b, h1, by omega, h3, h4, rfl, fun j hj hjn hwj => ?_⟩)
          by_cases e : j = i
          · subst e; omega
          · exact h6 j (by omega) hjn hwj
        · rw [hy, nI_1]
          refine ih _ _ (Or.inr ⟨i, hin, by omega, hm.2, rfl, rfl, fun j hj hjn hwj => ?_⟩)
          by_cases e : j = i
          · subst e; exact Or.inr ⟨rfl, Nat.le_refl _⟩
          · have := h6 j (by omega) hjn hwj
            omega
/-- the reference's choice of a position, as it goes -/
def bsP (D σ : Nat → Nat) (p : Nat) : Nat → Nat
  | 0 => p
  | d + 1 => if D (σ (p + 1 + d)) < D (σ (bsP D σ p d)) ∨ (D (σ (p + 1 + d)) = D (σ (bsP D σ p d)) ∧ σ (p + 1 + d) < σ (bsP D σ p d)) then p + 1 + d else bsP D σ p d
theorem bsP_spec (D σ : Nat → Nat) (p : Nat) : ∀ d, p ≤ bsP D σ p d ∧ bsP D σ p d ≤ p + d ∧ ∀ m, p ≤ m → m ≤ p + d → D (σ (bsP D σ p d)) < D (σ m) ∨ (D (σ (bsP D σ p d)) = D (σ m) ∧ σ (bsP D σ p d) ≤ σ m)
  | 0 => ⟨Nat.le_refl _, Nat.le_refl _, fun m h1 h2 => by
      have : m = p := by omega
      subst this; exact Or.inr ⟨rfl, Nat.le_refl _⟩⟩
  | d + 1 => by
    obtain ⟨h1, h2, h3⟩ := bsP_spec D σ p d
    unfold bsP
    generalize bsP D σ p d = c at *
    by_cases q : D (σ (p + 1 + d)) < D (σ c) ∨ (D (σ (p + 1 + d)) = D (σ c) ∧ σ (p + 1 + d) < σ c)
    · rw [if_pos q]
      refine ⟨by omega, by omega, fun m h4 h5 => ?_⟩
      by_cases e : m = p + 1 + d
      · subst e; exact Or.inr ⟨rfl, Nat.le_refl _⟩
      · have := h3 m h4 (by omega)
        omega
    · rw [if_neg q]
      refine ⟨h1, by omega, fun m h4 h5 => ?_⟩
      by_cases e : m = p + 1 + d
      · subst e; omega
      · exact h3 m h4 (by omega)
def mdb (n : Nat) (J : Nat → Nat → Bool) (σ τ : Nat → Nat) (p : Nat) : Nat := bsP (dg n J (fun j => decide (p ≤ τ j))) σ p (n - 1 - p)
def md (n : Nat) (A : Nat → Nat → Nat) (σ τ : Nat → Nat) : Nat → (Nat → Nat → Bool) × (Nat → Nat) × (Nat → Nat)
  | 0 => (LK A, σ, τ)
  | p + 1 => (JS (md n A σ τ p).1 ((md n A σ τ p).2.1 (mdb n (md n A σ τ p).1 (md n A σ τ p).2.1 (md n A σ τ p).2.2 p)) (fun j => decide (p < swp p (mdb n (md n A σ τ p).1 (md n A σ τ p).2.1 (md n A σ τ p).2.2 p) ((md n A σ τ p).2.2 j))), (fun k => (md n A σ τ p).2.1 (swp p (mdb n (md n A σ τ p).1 (md n A σ τ p).2.1 (md n A σ τ p).2.2 p) k)), (fun r => swp p (mdb n (md n A σ τ p).1 (md n A σ τ p).2.1 (md n A σ τ p).2.2 p) ((md n A σ τ p).2.2 r)))
theorem mdb_lt {n : Nat} {J : Nat → Nat → Bool} {σ τ : Nat → Nat} {p : Nat} (hp : p < n) : p ≤ mdb n J σ τ p ∧ mdb n J σ τ p < n := by
  have := bsP_spec (dg n J (fun j => decide (p ≤ τ j))) σ p (n - 1 - p)
  unfold mdb
  omega
theorem mdb_bst {n : Nat} {A : Nat → Nat → Nat} {σ τ ri we : Nat → Nat} (hW : WF n A σ τ ri we) {J : Nat → Nat → Bool} {p : Nat} (hp : p < n) : bst n (fun j => decide (p ≤ τ j)) (dg n J (fun j => decide (p ≤ τ j))) (σ (mdb n J σ τ p)) := by
  have hs := WF_p hW
  have hb := mdb_lt (J := J) (σ := σ) (τ := τ) hp
  refine ⟨(hs _ hb.2).1, ?_, fun j hj hw => ?_⟩
  · show decide (p ≤ τ (σ (mdb n J σ τ p))) = true
    rw [(hs _ hb.2).2.2.1]; exact decide_eq_true hb.1
  · have hw2 : p ≤ τ j := of_decide_eq_true hw
    have := (bsP_spec (dg n J (fun j => decide (p ≤ τ j))) σ p (n - 1 - p)).2.2 (τ j) hw2 (by have := (hs j hj).2.1; omega)
    rw [(hs j hj).2.2.2] at this
    exact this
theorem WF_md {n : Nat} {A : Nat → Nat → Nat} {σ τ ri we : Nat → Nat} (hW : WF n A σ τ ri we) : ∀ p, p ≤ n → WF n A (md n A σ τ p).2.1 (md n A σ τ p).2.2 ri we
  | 0, _ => hW
  | p + 1, h => WF_swp (WF_md hW p (by omega)) (show p < n by omega) (mdb_lt (show p < n by omega)).2
theorem md_self (n : Nat) (A : Nat → Nat → Nat) (σ τ : Nat → Nat) : ∀ p i, (md n A σ τ p).1 i i = false
  | 0, i => LK_self A i
  | p + 1, i => by
    unfold md
    dsimp only
    exact (JS_no3 rfl).trans (md_self n A σ τ p i)
theorem sp_order {n : Nat} {A : Nat → Nat → Nat} {σ τ ri we : Nat → Nat} (hW : WF n A σ τ ri we) {pe po pp pr pw ej : Nat → Int32} (hC : CP n A σ τ ri we (nI n) pe po pp pr pw) {Q : (Nat → Int32) → (Nat → Int32) → (Nat → Int32) → Prop} (h : ∀ ej po pp, (∀ k, k < n → po k = nI ((md n A σ τ n).2.1 k) ∧ pp k = nI ((md n A σ τ n).2.2 k)) → Q ej po pp) : wp_X0_orderByDegree (nI n) pe ej po pp Q := by
  have hn := hW.2.1
  intro G1 g1
  have k1 : ∀ p, p ≤ n → ∀ ej po pp, RJ n (md n A σ τ p).1 ej → (∀ q, q < p → po q = nI ((md n A σ τ p).2.1 q)) → (∀ r, r < n → (md n A σ τ p).2.2 r < p → pp r = nI ((md n A σ τ p).2.2 r)) → G1 (nI p) (nI (mk (fun j => decide (j < n) && decide (p ≤ (md n A σ τ p).2.2 j)))) ej po pp := by
    refine pu_down n ?_ ?_
    · intro ej po pp _ h1 h2
      exact g1 _ _ _ _ _ ⟨fun _ => h _ _ _ (fun k hk => ⟨h1 k hk, h2 k hk (WF_p (WF_md hW n (Nat.le_refl n)) k hk).2.1⟩), fun c => absurd (nI_le (Nat.le_refl n) (by omega)) c⟩
    · intro p hp ih ej po pp hJ h1 h2
      have hWp := WF_md hW p (by omega)
      have hs := WF_p hWp
      have hself := md_self n A σ τ p
      have hbp := mdb_bst hWp (J := (md n A σ τ p).1) hp
      have hb := mdb_lt (J := (md n A σ τ p).1) (σ := (md n A σ τ p).2.1) (τ := (md n A σ τ p).2.2) hp
      have ih' := ih
      unfold md at ih'
      generalize hm : md n A σ τ p = s at *
      obtain ⟨J, S, T⟩ := s
      replace hs : ∀ k, k < n → S k < n ∧ T k < n ∧ T (S k) = k ∧ S (T k) = k := hs
      replace hJ : RJ n J ej := hJ
      replace h1 : ∀ q, q < p → po q = nI (S q) := h1
      replace h2 : ∀ r, r < n → T r < p → pp r = nI (T r) := h2
      replace hb : p ≤ mdb n J S T p ∧ mdb n J S T p < n := hb
      replace hbp : bst n (fun j => decide (p ≤ T j)) (dg n J (fun j => decide (p ≤ T j))) (S (mdb n J S T p)) := hbp
      replace ih' : ∀ ej po pp, RJ n (JS J (S (mdb n J S T p)) (fun j => decide (p < swp p (mdb n J S T p) (T j)))) ej → (∀ q, q < p + 1 → po q = nI (S (swp p (mdb n J S T p) q))) → (∀ r, r < n → swp p (mdb n J S T p) (T r) < p + 1 → pp r = nI (swp p (mdb n J S T p) (T r))) → G1 (nI (p + 1)) (nI (mk (fun j => decide (j < n) && decide (p + 1 ≤ swp p (mdb n J S T p) (T j))))) ej po pp := ih'
      generalize mdb n J S T p = b at *
      have hsb := hs b hb.2
      refine g1 _ _ _ _ _ ⟨fun c => absurd c (nI_ge hp (by omega)), fun _ => ?_⟩
      show wp_X0_lowestDegree (nI (mk (fun j => decide (j < n) && decide (p ≤ T j)))) ej _
      refine sp_lowest (w := fun j => decide (p ≤ T j)) hn hJ hself ⟨S p, (hs p hp).1, by show decide (p ≤ T (S p)) = true; rw [(hs p hp).2.2.1]; exact decide_eq_true (Nat.le_refl p)⟩ (fun b2 hb2 => ?_)
      have e0 : b2 = S b := bst_one hb2 hbp
      subst e0
      refine ⟨fun c => absurd c (nI_nm1 (by omega)), fun _ => ⟨pn_in (by omega) (by decide), pn_in (by omega) (by decide), fun y hy => ⟨pn_in (by omega) (by decide), ?_⟩⟩⟩
      rw [mk_less _ (show S b < 16 by omega)] at hy
      have e1 : mk (fun j => (decide (j < n) && decide (p ≤ T j)) && decide (j ≠ S b)) = mk (fun j => decide (j < n) && decide (p + 1 ≤ swp p b (T j))) := mk_cong (fun j hj => by
        by_cases hjn : j < n
        · have hne : j = S b ↔ T j = b := ⟨fun e => by rw [e]; exact hsb.2.2.1, fun e => by rw [← e]; exact ((hs j hjn).2.2.2).symm⟩
          rw [decide_eq_true hjn, Bool.true_and, Bool.true_and, show decide (j ≠ S b) = decide (T j ≠ b) from decide_eq_decide.mpr (by rw [ne_eq, hne])]
          unfold swp
          by_cases q1 : T j = p
          · rw [if_pos q1, q1]
            by_cases q2 : p = b
            · rw [decide_eq_false (fun q : p ≠ b => q q2), Bool.and_false, decide_eq_false (show ¬ p + 1 ≤ b by omega)]
            · rw [decide_eq_true (show p ≠ b from q2), decide_eq_true (Nat.le_refl p), decide_eq_true (show p + 1 ≤ b by omega)]; rfl
          · rw [if_neg q1]
            by_cases q2 : T j = b
            · rw [if_pos q2, decide_eq_false (fun q : T j ≠ b => q q2), Bool.and_false, decide_eq_false (show ¬ p + 1 ≤ p by omega)]
            · rw [if_neg q2, decide_eq_true (show T j ≠ b from q2), Bool.and_true]
              exact decide_eq_decide.mpr (by omega)
        · rw [decide_eq_false hjn, Bool.false_and, Bool.false_and, Bool.false_and])
      rw [e1] at hy
      rw [hy, pn_cl (show S b < 2147483648 by omega), pn_cl (show p < 2147483648 by omega), hJ _ hsb.1, mk_and]
      have e2 : mk (fun j => (decide (j < n) && J (S b) j) && (decide (j < n) && decide (p + 1 ≤ swp p b (T j)))) = mk (fun j => decide (j < n) && (J (S b) j && decide (p < swp p b (T j)))) := mk_cong (fun j hj => by
        rw [show decide (p + 1 ≤ swp p b (T j)) = decide (p < swp p b (T j)) from rfl]
        cases decide (j < n) <;> cases J (S b) j <;> cases decide (p < swp p b (T j)) <;> rfl)
      rw [e2]
      refine sp_joinAll (J := J) (r := S b) (w := fun j => decide (p < swp p b (T j))) hn hJ (fun ej2 hJ2 z hz => ?_)
      rw [hz, nI_1]
      refine ih' _ _ _ hJ2 (fun q hq => ?_) (fun r hr hlt => ?_)
      · rw [upd_at]
        unfold swp
        by_cases e : q = p
        · rw [if_pos e, if_pos e]
        · rw [if_neg e, if_neg e, if_neg (show ¬ q = b by omega)]
          exact h1 q (by omega)
      · rw [upd_at]
        by_cases e : r = S b
        · rw [if_pos e, e, hsb.2.2.1]
          unfold swp
          by_cases q2 : b = p
          · rw [if_pos q2, q2]
          · rw [if_neg q2, if_pos rfl]
        · have hne : T r ≠ b := fun e3 => e (by rw [← e3]; exact ((hs r hr).2.2.2).symm)
          rw [if_neg e]
          unfold swp at hlt ⊢
          by_cases q1 : T r = p
          · rw [if_pos q1] at hlt ⊢
            have : b = p := by omega
            exact absurd (q1.trans this.symm) hne
          · rw [if_neg q1, if_neg hne] at hlt ⊢
            exact h2 r hr (by omega)
  refine sp_joinLinked hW hC (fun ej hJ => ?_)
  have := k1 0 (by omega) ej po pp hJ (fun q hq => absurd hq (by omega)) (fun r _ hr => absurd hr (by omega))
  rw [show mk (fun j => decide (j < n) && decide (0 ≤ (md n A σ τ 0).2.2 j)) = mk (fun j => decide (j < n)) from mk_cong (fun j _ => by rw [decide_eq_true (show 0 ≤ (md n A σ τ 0).2.2 j by omega), Bool.and_true])] at this
  unfold wp_X2_allRows
  rw [mk_all n hn]
  exact this
theorem pure_7 {L : Nat} {xs : Nat → Int32} {i : Nat} (hL : L ≤ 2048) (hi : 4 * i + 4 ≤ L) {X_solved : Int32} {X_levelCount : Int32} {P_rows : Int32} {P_entries : (Nat → Int32)} {P_order : (Nat → Int32)} {P_places : (Nat → Int32)} {P_rights : (Nat → Int32)} {P_weights : (Nat → Int32)} {L0_rows : Int32} {L0_entries : (Nat → Int32)} {L0_order : (Nat → Int32)} {L0_places : (Nat → Int32)} {L0_rights : (Nat → Int32)} {L0_weights : (Nat → Int32)} {L1_rows : Int32} {L1_entries : (Nat → Int32)} {L1_order : (Nat → Int32)} {L1_places : (Nat → Int32)} {L1_rights : (Nat → Int32)} {L1_weights : (Nat → Int32)} {L2_rows : Int32} {L2_entries : (Nat → Int32)} {L2_order : (Nat → Int32)} {L2_places : (Nat → Int32)} {L2_rights : (Nat → Int32)} {L2_weights : (Nat → Int32)} {L3_rows : Int32} {L3_entries : (Nat → Int32)} {L3_order : (Nat → Int32)} {L3_places : (Nat → Int32)} {L3_rights : (Nat → Int32)} {L3_weights : (Nat → Int32)} {L4_rows : Int32} {L4_entries : (Nat → Int32)} {L4_order : (Nat → Int32)} {L4_places : (Nat → Int32)} {L4_rights : (Nat → Int32)} {L4_weights : (Nat → Int32)} {L5_rows : Int32} {L5_entries : (Nat → Int32)} {L5_order : (Nat → Int32)} {L5_places : (Nat → Int32)} {L5_rights : (Nat → Int32)} {L5_weights : (Nat → Int32)} {E_joined : (Nat → Int32)} {E_later : (Nat → Int32)} {E_paths : (Nat → Int32)} {F_known : Int32} {F_rows : Int32} {F_pivots : (Nat → Int32)} {F_reciprocals : (Nat → Int32)} {F_below : (Nat → Int32)} {R_cells : (Nat → Int32)} {X_vector : (Nat → Int32)} {X_solution : (Nat → Int32)} {M_thrown : Int32} {M_n : Int32} {M_hasFactors : Int32} {M_hasSolution : Int32} {M_levels : Int32} {M_a : (Nat → Int32)} {M_rowAt : (Nat → Int32)} {M_places : (Nat → Int32)} {M_rights : (Nat → Int32)} {M_weights : (Nat → Int32)} {M_pivots : (Nat → Int32)} {M_lower : (Nat → Int32)} {M_solution : (Nat → Int32)} {M_work : (Nat → Int32)} {M_isJoined : (Nat → Int32)} {M_stored : (Nat → Int32)} {O_out : (Nat → Int64)} (hR : Rel X_solved X_levelCount P_rows P_entries P_order P_places P_rights P_weights L0_rows L0_entries L0_order L0_places L0_rights L0_weights L1_rows L1_entries L1_order L1_places L1_rights L1_weights L2_rows L2_entries L2_order L2_places L2_rights L2_weights L3_rows L3_entries L3_order L3_places L3_rights L3_weights L4_rows L4_entries L4_order L4_places L4_rights L4_weights L5_rows L5_entries L5_order L5_places L5_rights L5_weights E_joined E_later E_paths F_known F_rows F_pivots F_reciprocals F_below R_cells X_vector X_solution M_thrown M_n M_hasFactors M_hasSolution M_levels M_a M_rowAt M_places M_rights M_weights M_pivots M_lower M_solution M_work M_isJoined M_stored O_out) {G : Int32 → Int32 → Int32 → Int32 → (Nat → Int32) → (Nat → Int32) → (Nat → Int32) → (Nat → Int32) → (Nat → Int32) → Int32 → (Nat → Int32) → (Nat → Int32) → (Nat → Int32) → (Nat → Int32) → (Nat → Int32) → Int32 → (Nat → Int32) → (Nat → Int32) → (Nat → Int32) → (Nat → Int32) → (Nat → Int32) → Int32 → (Nat → Int32) → (Nat → Int32) → (Nat → Int32) → (Nat → Int32) → (Nat → Int32) → Int32 → (Nat → Int32) → (Nat → Int32) → (Nat → Int32) → (Nat → Int32) → (Nat → Int32) → Int32 → (Nat → Int32) → (Nat → Int32) → (Nat → Int32) → (Nat → Int32) → (Nat → Int32) → Int32 → (Nat → Int32) → (Nat → Int32) → (Nat → Int32) → (Nat → Int32) → (Nat → Int32) → (Nat → Int32) → (Nat → Int32) → (Nat → Int32) → Int32 → Int32 → (Nat → Int32) → (Nat → Int32) → (Nat → Int32) → (Nat → Int32) → (Nat → Int32) → (Nat → Int32) → Int32 → Int32 → Int32 → Int32 → Int32 → (Nat → Int32) → (Nat → Int32) → (Nat → Int32) → (Nat → Int32) → (Nat → Int32) → (Nat → Int32) → (Nat → Int32) → (Nat → Int32) → (Nat → Int32) → (Nat → Int32) → (Nat → Int32) → (Nat → Int64) → Prop} (hG : ∀ (X_solved : Int32) (X_levelCount : Int32) (P_rows : Int32) (P_entries : (Nat → Int32)) (P_order : (Nat → Int32)) (P_places : (Nat → Int32)) (P_rights : (Nat → Int32)) (P_weights : (Nat → Int32)) (L0_rows : Int32) (L0_entries : (Nat → Int32)) (L0_order : (Nat → Int32)) (L0_places : (Nat → Int32)) (L0_rights : (Nat → Int32)) (L0_weights : (Nat → Int32)) (L1_rows : Int32) (L1_entries : (Nat → Int32)) (L1_order : (Nat → Int32)) (L1_places : (Nat → Int32)) (L1_rights : (Nat → Int32)) (L1_weights : (Nat → Int32)) (L2_rows : Int32) (L2_entries : (Nat → Int32)) (L2_order : (Nat → Int32)) (L2_places : (Nat → Int32)) (L2_rights : (Nat → Int32)) (L2_weights : (Nat → Int32)) (L3_rows : Int32) (L3_entries : (Nat → Int32)) (L3_order : (Nat → Int32)) (L3_places : (Nat → Int32)) (L3_rights : (Nat → Int32)) (L3_weights : (Nat → Int32)) (L4_rows : Int32) (L4_entries : (Nat → Int32)) (L4_order : (Nat → Int32)) (L4_places : (Nat → Int32)) (L4_rights : (Nat → Int32)) (L4_weights : (Nat → Int32)) (L5_rows : Int32) (L5_entries : (Nat → Int32)) (L5_order : (Nat → Int32)) (L5_places : (Nat → Int32)) (L5_rights : (Nat → Int32)) (L5_weights : (Nat → Int32)) (E_joined : (Nat → Int32)) (E_later : (Nat → Int32)) (E_paths : (Nat → Int32)) (F_known : Int32) (F_rows : Int32) (F_pivots : (Nat → Int32)) (F_reciprocals : (Nat → Int32)) (F_below : (Nat → Int32)) (R_cells : (Nat → Int32)) (X_vector : (Nat → Int32)) (X_solution : (Nat → Int32)) (M_thrown : Int32) (M_n : Int32) (M_hasFactors : Int32) (M_hasSolution : Int32) (M_levels : Int32) (M_a : (Nat → Int32)) (M_rowAt : (Nat → Int32)) (M_places : (Nat → Int32)) (M_rights : (Nat → Int32)) (M_weights : (Nat → Int32)) (M_pivots : (Nat → Int32)) (M_lower : (Nat → Int32)) (M_solution : (Nat → Int32)) (M_work : (Nat → Int32)) (M_isJoined : (Nat → Int32)) (M_stored : (Nat → Int32)) (O_out : (Nat → Int64)), Rel X_solved X_levelCount P_rows P_entries P_order P_places P_rights P_weights L0_rows L0_entries L0_order L0_places L0_rights L0_weights L1_rows L1_entries L1_order L1_places L1_rights L1_weights L2_rows L2_entries L2_order L2_places L2_rights L2_weights L3_rows L3_entries L3_order L3_places L3_rights L3_weights L4_rows L4_entries L4_order L4_places L4_rights L4_weights L5_rows L5_entries L5_order L5_places L5_rights L5_weights E_joined E_later E_paths F_known F_rows F_pivots F_reciprocals F_below R_cells X_vector X_solution M_thrown M_n M_hasFactors M_hasSolution M_levels M_a M_rowAt M_places M_rights M_weights M_pivots M_lower M_solution M_work M_isJoined M_stored O_out → G (nI (4 * i) + 4) X_solved X_levelCount P_rows P_entries P_order P_places P_rights P_weights L0_rows L0_entries L0_order L0_places L0_rights L0_weights L1_rows L1_entries L1_order L1_places L1_rights L1_weights L2_rows L2_entries L2_order L2_places L2_rights L2_weights L3_rows L3_entries L3_order L3_places L3_rights L3_weights L4_rows L4_entries L4_order L4_places L4_rights L4_weights L5_rows L5_entries L5_order L5_places L5_rights L5_weights E_joined E_later E_paths F_known F_rows F_pivots F_reciprocals F_below R_cells X_vector X_solution M_thrown M_n M_hasFactors M_hasSolution M_levels M_a M_rowAt M_places M_rights M_weights M_pivots M_lower M_solution M_work M_isJoined M_stored O_out) : vc_law_7 L xs (nI (4 * i)) X_solved X_levelCount P_rows P_entries P_order P_places P_rights P_weights L0_rows L0_entries L0_order L0_places L0_rights L0_weights L1_rows L1_entries L1_order L1_places L1_rights L1_weights L2_rows L2_entries L2_order L2_places L2_rights L2_weights L3_rows L3_entries L3_order L3_places L3_rights L3_weights L4_rows L4_entries L4_order L4_places L4_rights L4_weights L5_rows L5_entries L5_order L5_places L5_rights L5_weights E_joined E_later E_paths F_known F_rows F_pivots F_reciprocals F_below R_cells X_vector X_solution M_thrown M_n M_hasFactors M_hasSolution M_levels M_a M_rowAt M_places M_rights M_weights M_pivots M_lower M_solution M_work M_isJoined M_stored O_out G := by
  obtain ⟨n, A, σ, τ, ri, we, fk, fs, ℓ, hW, hC, hM, hF, hS, hV⟩ := id hR
  have hn := hW.2.1
  have c1 := hC.1
  have m1 := hM.1
  subst c1 m1
  have hW2 := WF_md hW n (Nat.le_refl n)
  unfold vc_law_7 wp_X4_minimumDegree wp_X1_forget
  refine sp_order hW hC (fun ej po pp hc => ?_)
  have hC2 : CP n A (md n A σ τ n).2.1 (md n A σ τ n).2.2 ri we (nI n) P_entries po pp P_rights P_weights := ⟨rfl, hC.2.1, fun k hk => ⟨(hc k hk).1, (hc k hk).2, (hC.2.2 k hk).2.2⟩⟩
  refine sp_fill4 hW2 hC2 (fun ej el ep => ?_)
  intro G1 G2 g1 g2
  refine sp_join5 hW hM (fun ij hJ => ?_)
  suffices k1 : ∀ p, p ≤ n → ∀ ij ro pl : Nat → Int32, RI n (md n A σ τ p).1 ij → (∀ k, k < 16 → ro k = nI ((md n A σ τ p).2.1 k) ∧ pl k = nI ((md n A σ τ p).2.2 k)) → G1 (nI p) 0 0 ij ro pl from k1 0 (by omega) _ _ _ hJ hM.2.2.1
  refine pu_down n ?_ ?_
  · intro ij ro pl hJ hI
    have hM2 : MP n A (md n A σ τ n).2.1 (md n A σ τ n).2.2 ri we (nI n) M_a ro pl M_rights M_weights := ⟨rfl, hM.2.1, hI, hM.2.2.2⟩
    refine g1 _ _ _ _ _ _ ⟨fun _ => ?_, fun c => absurd (nI_le (Nat.le_refl n) (by omega)) c⟩
    refine sp_fills5 hW2 hM2 (fun ij => ?_)
    have hg2 : G (nI (4 * i) + 4) X_solved X_levelCount (nI n) P_entries po pp P_rights P_weights L0_rows L0_entries L0_order L0_places L0_rights L0_weights L1_rows L1_entries L1_order L1_places L1_rights L1_weights L2_rows L2_entries L2_order L2_places L2_rights L2_weights L3_rows L3_entries L3_order L3_places L3_rights L3_weights L4_rows L4_entries L4_order L4_places L4_rights L4_weights L5_rows L5_entries L5_order L5_places L5_rights L5_weights ej el ep 0 F_rows F_pivots F_reciprocals F_below R_cells X_vector X_solution 0 (nI n) 0 M_hasSolution M_levels M_a ro pl M_rights M_weights M_pivots M_lower M_solution M_work ij M_stored O_out := hG _ _ _ _ _ _ _ _ _ _ _ _ _ _ _ _ _ _ _ _ _ _ _ _ _ _ _ _ _ _ _ _ _ _ _ _ _ _ _ _ _ _ _ _ _ _ _ _ _ _ _ _ _ _ _ _ _ _ _ _ _ _ _ _ _ _ _ _ _ _ _ _ ⟨n, A, _, _, ri, we, false, fs, ℓ, hW2, hC2, hM2, FA_no, hS, hV⟩
    exact tl_p rfl hg2
  · intro p hp ih ij ro pl hJ hI
    have hWp := WF_md hW p (by omega)
    have hs := WF_p hWp
    have hb := mdb_lt (J := (md n A σ τ p).1) (σ := (md n A σ τ p).2.1) (τ := (md n A σ τ p).2.2) hp
    unfold md at ih
    dsimp only at ih
    have hmb : ∀ d, d ≤ n - 1 - p → G2 (nI (p + 1 + d)) (nI (bsP (dg n (md n A σ τ p).1 (fun j => decide (p ≤ (md n A σ τ p).2.2 j))) (md n A σ τ p).2.1 p d)) (nI p) 0 0 ij ro pl := by
      refine pu_down (n - 1 - p) ?_ ?_
      · have e : p + 1 + (n - 1 - p) = n := by omega
        rw [e]
        refine g2 _ _ _ _ _ _ _ _ ⟨fun _ => ?_, fun c => absurd (nI_le (Nat.le_refl n) (by omega)) c⟩
        refine sp_mxchg hWp hI hp hb.2 (fun ro2 pl2 hI2 => ?_)
        refine sp_elim (WF_swp hWp hp hb.2) (fun k hk => (hI2 k hk).1) hp hJ (fun ij2 hJ2 x hx => ?_)
        rw [hx, nI_1]
        refine ih _ _ _ ?_ hI2
        have e2 : swp p (mdb n (md n A σ τ p).1 (md n A σ τ p).2.1 (md n A σ τ p).2.2 p) p = mdb n (md n A σ τ p).1 (md n A σ τ p).2.1 (md n A σ τ p).2.2 p := if_pos rfl
        rw [e2] at hJ2
        exact hJ2
      · intro d hd ih2
        have sp := bsP_spec (dg n (md n A σ τ p).1 (fun j => decide (p ≤ (md n A σ τ p).2.2 j))) (md n A σ τ p).2.1 p d
        have hds : ∀ r, dg n (md n A σ τ p).1 (fun j => decide (p ≤ (md n A σ τ p).2.2 j)) r ≤ 16 := fun r => Nat.le_trans (ct_le _ n) hn
        have e1 : bsP (dg n (md n A σ τ p).1 (fun j => decide (p ≤ (md n A σ τ p).2.2 j))) (md n A σ τ p).2.1 p (d + 1) = if dg n (md n A σ τ p).1 (fun j => decide (p ≤ (md n A σ τ p).2.2 j)) ((md n A σ τ p).2.1 (p + 1 + d)) < dg n (md n A σ τ p).1 (fun j => decide (p ≤ (md n A σ τ p).2.2 j)) ((md n A σ τ p).2.1 (bsP (dg n (md n A σ τ p).1 (fun j => decide (p ≤ (md n A σ τ p).2.2 j))) (md n A σ τ p).2.1 p d)) ∨ (dg n (md n A σ τ p).1 (fun j => decide (p ≤ (md n A σ τ p).2.2 j)) ((md n A σ τ p).2.1 (p + 1 + d)) = dg n (md n A σ τ p).1 (fun j => decide (p ≤ (md n A σ τ p).2.2 j)) ((md n A σ τ p).2.1 (bsP (dg n (md n A σ τ p).1 (fun j => decide (p ≤ (md n A σ τ p).2.2 j))) (md n A σ τ p).2.1 p d)) ∧ (md n A σ τ p).2.1 (p + 1 + d) < (md n A σ τ p).2.1 (bsP (dg n (md n A σ τ p).1 (fun j => decide (p ≤ (md n A σ τ p).2.2 j))) (md n A σ τ p).2.1 p d)) then p + 1 + d else bsP (dg n (md n A σ τ p).1 (fun j => decide (p ≤ (md n A σ τ p).2.2 j))) (md n A σ τ p).2.1 p d := rfl
        rw [e1] at ih2
        clear e1
        generalize bsP (dg n (md n A σ τ p).1 (fun j => decide (p ≤ (md n A σ τ p).2.2 j))) (md n A σ τ p).2.1 p d = c at *
        have hc : c < n := by omega
        have hk : p + 1 + d < n := by omega
        have hd1 := hds ((md n A σ τ p).2.1 (p + 1 + d))
        have hd2 := hds ((md n A σ τ p).2.1 c)
        have hsk := hs _ hk
        have hsc := hs _ hc
        refine g2 _ _ _ _ _ _ _ _ ⟨fun q => absurd q (nI_ge hk (by omega)), fun _ => ?_⟩
        refine sp_degree5 hWp (fun k hk => (hI k hk).1) hJ hk (by omega) ?_
        refine sp_degree5 hWp (fun k hk => (hI k hk).1) hJ hc (by omega) ?_
        refine pk_lt _ _ (fun q x hx => ?_) (fun q => ?_)
        · rw [if_pos (Or.inl q)] at ih2
          rw [hx, nI_1]; exact ih2
        · refine sp_degree5 hWp (fun k hk => (hI k hk).1) hJ hk (by omega) ?_
          refine sp_degree5 hWp (fun k hk => (hI k hk).1) hJ hc (by omega) ?_
          refine pk_eq _ _ (fun q2 => ⟨pn_in (by omega) (by decide), pn_in (by omega) (by decide), ?_⟩) (fun q2 x hx => ?_)
          · rw [pn_cl (show c < 2147483648 by omega), pn_cl (show p + 1 + d < 2147483648 by omega), (hI c (by omega)).1, (hI (p + 1 + d) (by omega)).1]
            refine pk_le _ _ (fun q3 x hx => ?_) (fun q3 x hx => ?_)
            · rw [if_neg (by omega)] at ih2
              rw [hx, nI_1]; exact ih2
            · rw [if_pos (Or.inr ⟨q2, q3⟩)] at ih2
              rw [hx, nI_1]; exact ih2
          · rw [if_neg (by omega)] at ih2
            rw [hx, nI_1]; exact ih2
    refine g1 _ _ _ _ _ _ ⟨fun c => absurd c (nI_ge hp (by omega)), fun _ x hx => ?_⟩
    rw [hx, nI_1]
    exact hmb 0 (by omega)
