/-! PURE: the relation between the class's contents and the reference's, by one mathematical state: n rows, entries A, the order σ with its inverse τ, right sides, weights -/
def sqN : Nat → Nat → Nat
  | 0, a => a
  | k + 1, a => sqN k a * sqN k a % 65521
def rpN : Nat → Nat → Nat
  | 0, _ => 1
  | k + 1, a => if k = 4 then rpN k a else rpN k a * sqN k a % 65521
def inv (a : Nat) : Nat := rpN 16 a
theorem sqN_lt {a : Nat} (h : a < 65521) : ∀ k, sqN k a < 65521
  | 0 => h
  | k + 1 => Nat.mod_lt _ (by decide)
theorem rpN_lt (a : Nat) : ∀ k, rpN k a < 65521
  | 0 => show 1 < 65521 by decide
  | k + 1 => by
    unfold rpN
    split
    · exact rpN_lt a k
    · exact Nat.mod_lt _ (by decide)
theorem inv_lt (a : Nat) : inv a < 65521 := rpN_lt a 16
theorem pn_sq {a : Nat} (h : a < 65521) : ∀ k, f_sq k (nI a) = nI (sqN k a)
  | 0 => rfl
  | k + 1 => by
    show f_times (f_sq k (nI a)) (f_sq k (nI a)) = _
    rw [pn_sq h k, pn_times (sqN_lt h k) (sqN_lt h k)]; rfl
theorem pn_rp {a : Nat} (h : a < 65521) : ∀ k, f_rp k (nI a) = nI (rpN k a)
  | 0 => rfl
  | k + 1 => by
    unfold f_rp rpN
    by_cases hk : k = 4
    · rw [if_pos hk, if_pos hk]; exact pn_rp h k
    · rw [if_neg hk, if_neg hk, pn_rp h k, pn_sq h k, pn_times (rpN_lt a k) (sqN_lt h k)]
theorem pn_rec {a : Nat} (h : a < 65521) : f_rec (nI a) = nI (inv a) := pn_rp h 16
def WF (n : Nat) (A : Nat → Nat → Nat) (σ τ ri we : Nat → Nat) : Prop := 1 ≤ n ∧ n ≤ 16 ∧ (∀ i j, A i j < 65521) ∧ (∀ i j, A i j = A j i) ∧ (∀ k, k < 16 → σ k < 16 ∧ τ k < 16 ∧ τ (σ k) = k ∧ σ (τ k) = k) ∧ (∀ k, k < n → σ k < n ∧ τ k < n) ∧ (∀ k, ri k < 65521) ∧ (∀ k, we k < 65521)
/-- the class's Problem -/
def CP (n : Nat) (A : Nat → Nat → Nat) (σ τ ri we : Nat → Nat) (Pr : Int32) (pe po pp pr pw : Nat → Int32) : Prop := Pr = nI n ∧ (∀ i j, i < n → j < n → pe (16 * i + j) = nI (A i j)) ∧ (∀ k, k < n → po k = nI (σ k) ∧ pp k = nI (τ k) ∧ pr k = nI (ri k) ∧ pw k = nI (we k))
/-- the reference's fields -/
def MP (n : Nat) (A : Nat → Nat → Nat) (σ τ ri we : Nat → Nat) (mn : Int32) (ma ro pl mr mw : Nat → Int32) : Prop := mn = nI n ∧ (∀ i j, i < n → j < n → ma (16 * i + j) = nI (A i j)) ∧ (∀ k, k < 16 → ro k = nI (σ k) ∧ pl k = nI (τ k)) ∧ (∀ k, k < n → mr k = nI (ri k) ∧ mw k = nI (we k))
/-- an entry by positions, less what the first m pivots explain -/
def rst (A : Nat → Nat → Nat) (σ : Nat → Nat) (D : Nat → Nat) (Lf : Nat → Nat → Nat) (i k : Nat) : Nat → Nat
  | 0 => A (σ i) (σ k)
  | m + 1 => sbm (rst A σ D Lf i k m) (Lf i m * Lf k m % 65521 * D m % 65521)
def LD (n : Nat) (A : Nat → Nat → Nat) (σ : Nat → Nat) (D : Nat → Nat) (Lf : Nat → Nat → Nat) : Prop := (∀ k, k < n → D k < 65521 ∧ D k ≠ 0) ∧ (∀ i k, Lf i k < 65521) ∧ (∀ k, k < n → D k = rst A σ D Lf k k k) ∧ (∀ i k, k < i → i < n → Lf i k = rst A σ D Lf i k k * inv (D k) % 65521)
def FA (n : Nat) (A : Nat → Nat → Nat) (σ : Nat → Nat) (fk : Bool) (Fk Fr : Int32) (fp fr fb : Nat → Int32) (Mh : Int32) (mp ml : Nat → Int32) : Prop := Fk = nI (cond fk 1 0) ∧ Mh = nI (cond fk 1 0) ∧ (fk = true → ∃ (D : Nat → Nat) (Lf : Nat → Nat → Nat), LD n A σ D Lf ∧ Fr = nI n ∧ (∀ k, k < n → fp k = nI (D k) ∧ mp k = nI (D k) ∧ fr k = nI (inv (D k))) ∧ (∀ i k, k < i → i < n → fb (16 * i + k) = nI (Lf i k) ∧ ml (16 * i + k) = nI (Lf i k)))
def SO (n : Nat) (fs : Bool) (Xs : Int32) (xs : Nat → Int32) (Ms : Int32) (ms : Nat → Int32) : Prop := Xs = nI (cond fs 1 0) ∧ Ms = nI (cond fs 1 0) ∧ (fs = true → ∀ i, i < n → xs i = ms i)
/-- level k: the class's Problem there, and the reference's row of stored -/
def LA (k : Nat) (Lr : Int32) (le lo lp lr lw : Nat → Int32) (st : Nat → Int32) : Prop := ∃ (n : Nat) (A : Nat → Nat → Nat) (σ τ ri we : Nat → Nat), WF n A σ τ ri we ∧ CP n A σ τ ri we Lr le lo lp lr lw ∧ st (305 * k) = nI n ∧ (∀ t, t < 16 → st (305 * k + 1 + t) = nI (σ t)) ∧ (∀ t, t < n → st (305 * k + 17 + t) = nI (ri t) ∧ st (305 * k + 33 + t) = nI (we t)) ∧ (∀ i j, i < n → j < n → st (305 * k + 49 + (16 * i + j)) = nI (A i j))
def LV (ℓ : Nat) (Xl Ml : Int32) (st : Nat → Int32) (l0 l1 l2 l3 l4 l5 : Prop) : Prop := Xl = nI ℓ ∧ Ml = nI ℓ ∧ ℓ ≤ 6 ∧ (0 < ℓ → l0) ∧ (1 < ℓ → l1) ∧ (2 < ℓ → l2) ∧ (3 < ℓ → l3) ∧ (4 < ℓ → l4) ∧ (5 < ℓ → l5)
def Rel (X_solved : Int32) (X_levelCount : Int32) (P_rows : Int32) (P_entries : (Nat → Int32)) (P_order : (Nat → Int32)) (P_places : (Nat → Int32)) (P_rights : (Nat → Int32)) (P_weights : (Nat → Int32)) (L0_rows : Int32) (L0_entries : (Nat → Int32)) (L0_order : (Nat → Int32)) (L0_places : (Nat → Int32)) (L0_rights : (Nat → Int32)) (L0_weights : (Nat → Int32)) (L1_rows : Int32) (L1_entries : (Nat → Int32)) (L1_order : (Nat → Int32)) (L1_places : (Nat → Int32)) (L1_rights : (Nat → Int32)) (L1_weights : (Nat → Int32)) (L2_rows : Int32) (L2_entries : (Nat → Int32)) (L2_order : (Nat → Int32)) (L2_places : (Nat → Int32)) (L2_rights : (Nat → Int32)) (L2_weights : (Nat → Int32)) (L3_rows : Int32) (L3_entries : (Nat → Int32)) (L3_order : (Nat → Int32)) (L3_places : (Nat → Int32)) (L3_rights : (Nat → Int32)) (L3_weights : (Nat → Int32)) (L4_rows : Int32) (L4_entries : (Nat → Int32)) (L4_order : (Nat → Int32)) (L4_places : (Nat → Int32)) (L4_rights : (Nat → Int32)) (L4_weights : (Nat → Int32)) (L5_rows : Int32) (L5_entries : (Nat → Int32)) (L5_order : (Nat → Int32)) (L5_places : (Nat → Int32)) (L5_rights : (Nat → Int32)) (L5_weights : (Nat → Int32)) (E_joined : (Nat → Int32)) (E_later : (Nat → Int32)) (E_paths : (Nat → Int32)) (F_known : Int32) (F_rows : Int32) (F_pivots : (Nat → Int32)) (F_reciprocals : (Nat → Int32)) (F_below : (Nat → Int32)) (R_cells : (Nat → Int32)) (X_vector : (Nat → Int32)) (X_solution : (Nat → Int32)) (M_thrown : Int32) (M_n : Int32) (M_hasFactors : Int32) (M_hasSolution : Int32) (M_levels : Int32) (M_a : (Nat → Int32)) (M_rowAt : (Nat → Int32)) (M_places : (Nat → Int32)) (M_rights : (Nat → Int32)) (M_weights : (Nat → Int32)) (M_pivots : (Nat → Int32)) (M_lower : (Nat → Int32)) (M_solution : (Nat → Int32)) (M_work : (Nat → Int32)) (M_isJoined : (Nat → Int32)) (M_stored : (Nat → Int32)) (O_out : (Nat → Int64)) : Prop := ∃ (n : Nat) (A : Nat → Nat → Nat) (σ τ ri we : Nat → Nat) (fk fs : Bool) (ℓ : Nat), WF n A σ τ ri we ∧ CP n A σ τ ri we P_rows P_entries P_order P_places P_rights P_weights ∧ MP n A σ τ ri we M_n M_a M_rowAt M_places M_rights M_weights ∧ FA n A σ fk F_known F_rows F_pivots F_reciprocals F_below M_hasFactors M_pivots M_lower ∧ SO n fs X_solved X_solution M_hasSolution M_solution ∧ LV ℓ X_levelCount M_levels M_stored (LA 0 L0_rows L0_entries L0_order L0_places L0_rights L0_weights M_stored) (LA 1 L1_rows L1_entries L1_order L1_places L1_rights L1_weights M_stored) (LA 2 L2_rows L2_entries L2_order L2_places L2_rights L2_weights M_stored) (LA 3 L3_rows L3_entries L3_order L3_places L3_rights L3_weights M_stored) (LA 4 L4_rows L4_entries L4_order L4_places L4_rights L4_weights M_stored) (LA 5 L5_rows L5_entries L5_order L5_places L5_rights L5_weights M_stored)
-- the script's places
theorem sc1 {L i : Nat} (hL : L ≤ 2048) (hi : 4 * i + 4 ≤ L) : vp_in (nI (4 * i) + 1) L := by rw [nI_1]; exact vp_in_nI (by omega) (by omega)
theorem sc2 {L i : Nat} (hL : L ≤ 2048) (hi : 4 * i + 4 ≤ L) : vp_in (nI (4 * i) + 2) L := by rw [show (2 : Int32) = nI 2 from rfl, nI_add]; exact vp_in_nI (by omega) (by omega)
theorem sc3 {L i : Nat} (hL : L ≤ 2048) (hi : 4 * i + 4 ≤ L) : vp_in (nI (4 * i) + 3) L := by rw [show (3 : Int32) = nI 3 from rfl, nI_add]; exact vp_in_nI (by omega) (by omega)
-- a row, a position, a residue, factors: there or not
theorem nr_ok {j n : Nat} {x1 x2 : Int32} {Q : Prop} {X : String → Prop} (hj : j < n) (hn : n ≤ 16) (h : Q) : wp_X4_needRow (nI j) x1 x2 (nI n) Q X := ⟨fun c => absurd c (nI_pos (by omega)), fun _ => ⟨fun _ => h, fun c => absurd (nI_lt hj (by omega)) c⟩⟩
theorem nr_no {i x1 x2 m : Int32} {Q : Prop} {X : String → Prop} (hi : i < 0 ∨ m ≤ i) (h : X xIOB) : wp_X4_needRow i x1 x2 m Q X := ⟨fun _ => h, fun c => ⟨fun c2 => absurd c2 (Int32.not_lt.mpr (hi.resolve_left c)), fun _ => h⟩⟩
theorem np_ok {j n : Nat} {x1 x2 : Int32} {Q : Prop} {X : String → Prop} (hj : j < n) (hn : n ≤ 16) (h : Q) : wp_X4_needPosition (nI j) x1 x2 (nI n) Q X := ⟨fun c => absurd c (nI_pos (by omega)), fun _ => ⟨fun _ => h, fun c => absurd (nI_lt hj (by omega)) c⟩⟩
theorem np_no {i x1 x2 m : Int32} {Q : Prop} {X : String → Prop} (hi : i < 0 ∨ m ≤ i) (h : X xIOB) : wp_X4_needPosition i x1 x2 m Q X := ⟨fun _ => h, fun c => ⟨fun c2 => absurd c2 (Int32.not_lt.mpr (hi.resolve_left c)), fun _ => h⟩⟩
theorem ns_ok {v : Nat} {Q : Prop} {X : String → Prop} (hv : v < 65521) (h : Q) : wp_X4_needResidue (nI v) Q X := ⟨fun c => absurd c (nI_pos (by omega)), fun _ => ⟨fun _ => h, fun c => absurd (show nI v < nI 65521 from nI_lt hv (by decide)) c⟩⟩
theorem ns_no {v : Int32} {Q : Prop} {X : String → Prop} (hv : v < 0 ∨ nI 65521 ≤ v) (h : X xIAE) : wp_X4_needResidue v Q X := ⟨fun _ => h, fun c => ⟨fun c2 => absurd c2 (Int32.not_lt.mpr (hv.resolve_left c)), fun _ => h⟩⟩
theorem nf_ok {x1 x2 x3 f : Int32} {Q : Prop} {X : String → Prop} (hf : f = nI 1) (h : Q) : wp_X4_needFactors x1 x2 f x3 Q X := ⟨fun c => absurd c (by rw [hf]; decide), fun _ => h⟩
theorem nf_no {x1 x2 x3 f : Int32} {Q : Prop} {X : String → Prop} (hf : f = nI 0) (h : X xISE) : wp_X4_needFactors x1 x2 f x3 Q X := ⟨fun _ => h, fun c => absurd (by rw [hf]; rfl) c⟩
theorem ir_ok {j n : Nat} {t a b c : Int32} {Q : Int32 → Prop} (hj : j < n) (hn : n ≤ 16) (h : Q 1) : wp_X5_isRow (nI j) t (nI n) a b c Q := ⟨fun c => absurd c (nI_pos (by omega)), fun _ => ⟨fun c => absurd c (nI_ge hj (by omega)), fun _ => h⟩⟩
theorem ir_no {i m t a b c : Int32} {Q : Int32 → Prop} (hi : i < 0 ∨ m ≤ i) (h : Q 0) : wp_X5_isRow i t m a b c Q := ⟨fun _ => h, fun c => ⟨fun _ => h, fun c2 => absurd (hi.resolve_left c) c2⟩⟩
theorem rs_ok {v : Nat} (hv : v < 65521) : f_res (nI v) = 1 := by
  unfold f_res
  rw [if_pos ⟨nI_pos' (by omega), show nI v < nI 65521 from nI_lt hv (by decide)⟩]
theorem rs_no {v : Int32} (hv : v < 0 ∨ nI 65521 ≤ v) : f_res v = 0 := by
  unfold f_res
  rw [if_neg (fun q => hv.elim (fun h => absurd q.1 (Int32.not_le.mpr h)) (fun h => absurd q.2 (Int32.not_lt.mpr h)))]
theorem px_ix (x : Int32) {n : Nat} (hn : n < 2147483648) : (x < 0 ∨ nI n ≤ x) ∨ ∃ j : Nat, j < n ∧ x = nI j := by
  rcases pk_ix x hn with h | h | h
  · exact Or.inl (Or.inl h)
  · exact Or.inl (Or.inr h)
  · exact Or.inr h
theorem lc_0 (x : Int64) : lg_cmp x x = 0 := by
  unfold lg_cmp
  rw [if_neg (by rw [gt_iff_lt, Int64.lt_iff_toInt_lt]; omega), if_pos rfl]
/-- the law's comparison behind a call that may throw -/
theorem tl_i {t r b m1 m2 m3 m4 x4 : Int32} {out : Nat → Int64} {Gx : Int32 → Prop} (h1 : t = r) (h2 : r = 0 → out 0 = Int32.toInt64 b) (hg : Gx (x4 + 4)) : wp_X5_thrown t m1 m2 m3 m4 (fun q => (q = r → ((r = 0 → (((lg_cmp (out (Int32.toNatClampNeg 0)) (Int32.toInt64 b)) = 0 → (∀ x : Int32, x = x4 + 4 → (Gx x))) ∧ (¬ (lg_cmp (out (Int32.toNatClampNeg 0)) (Int32.toInt64 b)) = 0 → (False)))) ∧ (¬ r = 0 → (∀ x : Int32, x = x4 + 4 → (Gx x))))) ∧ (¬ q = r → (False))) := by
  refine ⟨fun _ => ⟨fun hr => ⟨fun _ x hx => by rw [hx]; exact hg, fun c => c ?_⟩, fun _ x hx => by rw [hx]; exact hg⟩, fun c => c h1⟩
  rw [show Int32.toNatClampNeg 0 = 0 from by decide, h2 hr]
  exact lc_0 _
theorem tl_z {t r b m1 m2 m3 m4 x4 : Int32} {out : Nat → Int64} {Gx : Int32 → Prop} (h1 : t = r) (h2 : r = 0 → out 0 = (if b = 0 then 0 else 1)) (hg : Gx (x4 + 4)) : wp_X5_thrown t m1 m2 m3 m4 (fun q => (q = r → ((r = 0 → ((b = 0 → (((lg_cmp (out (Int32.toNatClampNeg 0)) 0) = 0 → (∀ x : Int32, x = x4 + 4 → (Gx x))) ∧ (¬ (lg_cmp (out (Int32.toNatClampNeg 0)) 0) = 0 → (False)))) ∧ (¬ b = 0 → (((lg_cmp (out (Int32.toNatClampNeg 0)) 1) = 0 → (∀ x : Int32, x = x4 + 4 → (Gx x))) ∧ (¬ (lg_cmp (out (Int32.toNatClampNeg 0)) 1) = 0 → (False)))))) ∧ (¬ r = 0 → (∀ x : Int32, x = x4 + 4 → (Gx x))))) ∧ (¬ q = r → (False))) := by
  refine ⟨fun _ => ⟨fun hr => ⟨fun hb => ⟨fun _ x hx => by rw [hx]; exact hg, fun c => c ?_⟩, fun hb => ⟨fun _ x hx => by rw [hx]; exact hg, fun c => c ?_⟩⟩, fun _ x hx => by rw [hx]; exact hg⟩, fun c => c h1⟩
  · rw [show Int32.toNatClampNeg 0 = 0 from by decide, h2 hr, if_pos hb]
    exact lc_0 _
  · rw [show Int32.toNatClampNeg 0 = 0 from by decide, h2 hr, if_neg hb]
    exact lc_0 _
/-- .. and behind one that doesn't -/
theorem tl_p {a b x4 : Int32} {Gx : Int32 → Prop} (h1 : a = b) (hg : Gx (x4 + 4)) : (a = b → (∀ x : Int32, x = x4 + 4 → (Gx x))) ∧ (¬ a = b → (False)) := ⟨fun _ x hx => by rw [hx]; exact hg, fun c => c h1⟩
theorem ul_0 (out : Nat → Int64) (v : Int64) : vp_updL out (Int32.toNatClampNeg 0) v 0 = v := by
  rw [show Int32.toNatClampNeg 0 = 0 from by decide]; exact pk_uLs
