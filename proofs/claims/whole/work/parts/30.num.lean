/-! PURE: numbers. Residues modulo 65521 as Nat, indexes as Nat, loops that count up -/
theorem pu_down {P : Nat → Prop} (n : Nat) (h0 : P n) (hs : ∀ i, i < n → P (i + 1) → P i) : ∀ i, i ≤ n → P i := by
  intro i hi
  obtain ⟨d, rfl⟩ : ∃ d, n = i + d := ⟨n - i, by omega⟩
  clear hi
  induction d generalizing i with
  | zero => exact h0
  | succ d ih => exact hs i (by omega) (ih (i + 1) (by rw [show i + 1 + d = i + (d + 1) by omega]; exact h0) (fun j hj => hs j (by omega)))
theorem pn_cl {k : Nat} (h : k < 2147483648) : Int32.toNatClampNeg (nI k) = k := nI_clamp h
theorem pn_le {a b : Nat} (ha : a < 2147483648) (hb : b < 2147483648) : (nI a ≤ nI b) = (a ≤ b) := propext (nI_leI ha hb)
theorem pn_lt {a b : Nat} (ha : a < 2147483648) (hb : b < 2147483648) : (nI a < nI b) = (a < b) := propext (nI_ltI ha hb)
theorem pn_eq {a b : Nat} (ha : a < 2147483648) (hb : b < 2147483648) : (nI a = nI b) = (a = b) := propext (nI_eq ha hb)
theorem pn_0 : (0 : Int32) = nI 0 := rfl
theorem pn_1 : (1 : Int32) = nI 1 := rfl
theorem pn_in {k N : Nat} (h : k < N) (hN : N < 2147483648) : vp_in (nI k) N := vp_in_nI h hN
theorem pn_cell (i j : Nat) : f_cell (nI i) (nI j) = nI (16 * i + j) := by
  show nI i * nI 16 + nI j = _
  rw [pk_mul, nI_add, Nat.mul_comm]
theorem pn_at (i j : Nat) : f_at (nI i) (nI j) = nI (16 * i + j) := by
  show nI 16 * nI i + nI j = _
  rw [pk_mul, nI_add]
theorem pn_at17 (i j : Nat) : f_at17 (nI i) (nI j) = nI (17 * i + j) := by
  show nI 17 * nI i + nI j = _
  rw [pk_mul, nI_add]
theorem pn_times {a b : Nat} (ha : a < 65521) (hb : b < 65521) : f_times (nI a) (nI b) = nI (a * b % 65521) := by
  have h1 : (nI a).toInt64 = lN a := nI_l (by omega)
  have h2 : (nI b).toInt64 = lN b := nI_l (by omega)
  have h3 : a * b < 2 ^ 63 := Nat.lt_of_le_of_lt (Nat.mul_le_mul (Nat.le_of_lt ha) (Nat.le_of_lt hb)) (by decide)
  unfold f_times
  rw [h1, h2, lN_mul, show (65521 : Int64) = lN 65521 from rfl, pk_lRem h3 (by decide) (by decide), lN_i]
theorem pn_sac (x y c : Int32) : x - y + c = x + c - y := by rw [Int32.sub_eq_add_neg, Int32.sub_eq_add_neg, Int32.add_assoc, Int32.add_comm (-y) c, ← Int32.add_assoc]
def sbm (a b : Nat) : Nat := (a + (65521 - b)) % 65521
theorem sbm_lt (a b : Nat) : sbm a b < 65521 := Nat.mod_lt _ (by decide)
theorem sbm_eq {a b : Nat} (ha : a < 65521) (hb : b < 65521) : sbm a b = if b ≤ a then a - b else a + 65521 - b := by
  unfold sbm
  split
  · rw [show a + (65521 - b) = (a - b) + 65521 by omega, Nat.add_mod_right, Nat.mod_eq_of_lt (by omega)]
  · rw [Nat.mod_eq_of_lt (by omega)]; omega
theorem pn_minus {a b : Nat} (ha : a < 65521) (hb : b < 65521) : f_minus (nI a) (nI b) = nI (sbm a b) := by
  have h1 : (nI a - nI b).toInt = (a : Int) - b := pk_sub_toInt (by omega) (by omega)
  have h2 : ((0 : Int32) ≤ nI a - nI b) ↔ b ≤ a := by
    rw [Int32.le_iff_toInt_le, h1, show (0 : Int32).toInt = 0 from rfl]; omega
  unfold f_minus
  rw [sbm_eq ha hb]
  by_cases h : b ≤ a
  · rw [if_pos (h2.mpr h), if_pos h, pk_sub h]
  · rw [if_neg (fun q => h (h2.mp q)), if_neg h]
    have h3 : nI (a + 65521) - nI b = nI (a + 65521 - b) := pk_sub (by omega)
    rw [← h3, ← nI_add, show nI 65521 = (65521 : Int32) from rfl]
    exact pn_sac _ _ _
theorem pn_gminus {a b : Nat} (ha : a < 65521) (hb : b < 65521) : g_minus (nI a) (nI b) = nI (sbm a b) := by
  have h3 : nI a - nI b + 65521 = nI (a + (65521 - b)) := by
    have h4 : nI (a + 65521) - nI b = nI (a + 65521 - b) := pk_sub (by omega)
    rw [show a + (65521 - b) = a + 65521 - b by omega, ← h4, ← nI_add, show nI 65521 = (65521 : Int32) from rfl]
    exact pn_sac _ _ _
  unfold g_minus
  rw [h3, show (65521 : Int32) = nI 65521 from rfl, pk_rem (by omega) (by decide) (by decide)]
  rfl
theorem pn_plus {a b : Nat} (ha : a < 65521) (hb : b < 65521) : f_plus (nI a) (nI b) = nI ((a + b) % 65521) := by
  have e : (nI (a + b) < nI 65521) ↔ a + b < 65521 := nI_ltI (by omega) (by decide)
  unfold f_plus
  rw [nI_add, show (65521 : Int32) = nI 65521 from rfl]
  by_cases h : a + b < 65521
  · rw [if_pos (e.mpr h), Nat.mod_eq_of_lt h]
  · rw [if_neg (fun q => h (e.mp q)), pk_sub (by omega), Nat.mod_eq_sub_mod (by omega), Nat.mod_eq_of_lt (by omega)]
