/-! PURE: sets of rows as masks -/
theorem mw_and (a b : Nat) : nI a &&& nI b = nI (a &&& b) := by
  apply Int32.toBitVec_inj.1
  show BitVec.ofNat 32 a &&& BitVec.ofNat 32 b = BitVec.ofNat 32 (a &&& b)
  apply BitVec.eq_of_getLsbD_eq
  intro i hi
  simp [hi]
theorem mw_or (a b : Nat) : nI a ||| nI b = nI (a ||| b) := by
  apply Int32.toBitVec_inj.1
  show BitVec.ofNat 32 a ||| BitVec.ofNat 32 b = BitVec.ofNat 32 (a ||| b)
  apply BitVec.eq_of_getLsbD_eq
  intro i hi
  simp [hi]
theorem mw_xor (a b : Nat) : nI a ^^^ nI b = nI (a ^^^ b) := by
  apply Int32.toBitVec_inj.1
  show BitVec.ofNat 32 a ^^^ BitVec.ofNat 32 b = BitVec.ofNat 32 (a ^^^ b)
  apply BitVec.eq_of_getLsbD_eq
  intro i hi
  simp [hi]
theorem mw_ushr {n : Nat} (hn : n < 4294967296) (s : Int32) (k : Nat) (hs : ((s.toUInt32 &&& Int32.toUInt32 31).toBitVec % 32).toNat = k) : ((nI n).toUInt32 >>> (s.toUInt32 &&& Int32.toUInt32 31)).toInt32 = nI (n / 2 ^ k) := pk_ushrN hn s k hs
theorem f_bcN {m : Nat} (h : m < 65536) : f_bc (nI m) = nI (ct m.testBit 16) := by
  rw [← bcG_ct h]
  unfold bcG
  rw [fz_eq, fz_eq, fz_eq, fz_eq]
  have b1 : m / 2 &&& 1431655765 ≤ m := Nat.le_trans Nat.and_le_left (Nat.div_le_self _ _)
  have e1 : f_b1 (nI m) = nI (m - (m / 2 &&& 1431655765)) := by
    unfold f_b1
    rw [mw_ushr (by omega) 1 1 (by decide), show (1431655765 : Int32) = nI 1431655765 from rfl, mw_and, pk_sub (by omega)]
  have b2 : m - (m / 2 &&& 1431655765) < 65536 := by omega
  generalize hx1 : m - (m / 2 &&& 1431655765) = x1 at e1 b2
  have e2 : f_b2 (nI x1) = nI ((x1 &&& 858993459) + (x1 / 4 &&& 858993459)) := by
    unfold f_b2
    rw [mw_ushr (by omega) 2 2 (by decide), show (858993459 : Int32) = nI 858993459 from rfl, mw_and, mw_and, nI_add]
  have b3 : (x1 &&& 858993459) + (x1 / 4 &&& 858993459) < 131072 := by
    have h1 : x1 &&& 858993459 ≤ x1 := Nat.and_le_left
    have h2 : x1 / 4 &&& 858993459 ≤ x1 / 4 := Nat.and_le_left
    omega
  generalize hx2 : (x1 &&& 858993459) + (x1 / 4 &&& 858993459) = x2 at e2 b3
  have e3 : f_b3 (nI x2) = nI ((x2 + x2 / 16) &&& 252645135) := by
    unfold f_b3
    rw [mw_ushr (by omega) 4 4 (by decide), nI_add, show (252645135 : Int32) = nI 252645135 from rfl, mw_and]
  have b4 : (x2 + x2 / 16) &&& 252645135 < 262144 := by
    have h1 : (x2 + x2 / 16) &&& 252645135 ≤ x2 + x2 / 16 := Nat.and_le_left
    omega
  generalize hx3 : (x2 + x2 / 16) &&& 252645135 = x3 at e3 b4
  have e4 : f_b4 (nI x3) = nI (x3 + x3 / 256) := by
    unfold f_b4
    rw [mw_ushr (by omega) 8 8 (by decide), nI_add]
  have b5 : x3 + x3 / 256 < 524288 := by omega
  generalize hx4 : x3 + x3 / 256 = x4 at e4 b5
  have e5 : f_b5 (nI x4) = nI (x4 + x4 / 65536) := by
    unfold f_b5
    rw [mw_ushr (by omega) 16 16 (by decide), nI_add]
  unfold f_bc
  rw [e1, e2, e3, e4, e5, show (63 : Int32) = nI 63 from rfl, mw_and]
  show _ = nI _
  have q1 : Nat.sub m (Nat.land (Nat.div m 2) 1431655765) = x1 := hx1
  rw [q1]
  have q2 : Nat.add (Nat.land x1 858993459) (Nat.land (Nat.div x1 4) 858993459) = x2 := hx2
  rw [q2]
  have q3 : Nat.land (Nat.add x2 (Nat.div x2 16)) 252645135 = x3 := hx3
  rw [q3]
  have q4 : Nat.add x3 (Nat.div x3 256) = x4 := hx4
  rw [q4]
  rfl
def msk (p : Nat → Bool) : Nat → Nat
  | 0 => 0
  | k + 1 => msk p k ||| (if p k then 2 ^ k else 0)
/-- the mask of the rows with p -/
def mk (p : Nat → Bool) : Nat := msk p 16
theorem msk_bit (p : Nat → Bool) (j : Nat) : ∀ k, (msk p k).testBit j = (decide (j < k) && p j)
  | 0 => by
    show Nat.testBit 0 j = _
    rw [Nat.zero_testBit, decide_eq_false (by omega), Bool.false_and]
  | k + 1 => by
    show (msk p k ||| _).testBit j = _
    rw [Nat.testBit_or, msk_bit p j k]
    have h2 : (if p k then 2 ^ k else 0 : Nat).testBit j = (decide (k = j) && p k) := by
      cases hp : p k with
      | true => rw [if_pos rfl, Nat.testBit_two_pow, Bool.and_true]
      | false => rw [if_neg (by decide), Nat.zero_testBit, Bool.and_false]
    rw [h2]
    by_cases hj : j = k
    · subst hj
      rw [decide_eq_false (Nat.lt_irrefl j), decide_eq_true (show j = j from rfl), decide_eq_true (show j < j + 1 by omega)]
      cases p j <;> rfl
    · rw [decide_eq_false (show ¬ k = j from fun e => hj e.symm), Bool.false_and, Bool.or_false]
      by_cases hl : j < k
      · rw [decide_eq_true hl, decide_eq_true (show j < k + 1 by omega)]
      · rw [decide_eq_false hl, decide_eq_false (show ¬ j < k + 1 by omega)]
theorem mk_bit (p : Nat → Bool) (j : Nat) : (mk p).testBit j = (decide (j < 16) && p j) := msk_bit p j 16
theorem mk_lt (p : Nat → Bool) : mk p < 65536 := by
  have : ∀ k, msk p k < 2 ^ k := by
    intro k
    induction k with
    | zero => exact Nat.one_pos
    | succ k ih =>
      refine Nat.or_lt_two_pow (Nat.lt_of_lt_of_le ih (Nat.pow_le_pow_right (by decide) (by omega))) ?_
      split
      · exact Nat.pow_lt_pow_right (by decide) (by omega)
      · exact Nat.two_pow_pos _
  exact this 16
theorem mk_ext {a b : Nat} (ha : a < 65536) (hb : b < 65536) (h : ∀ j, j < 16 → a.testBit j = b.testBit j) : a = b := by
  refine Nat.eq_of_testBit_eq (fun j => ?_)
  by_cases hj : j < 16
  · exact h j hj
  · have h2 : 65536 ≤ 2 ^ j := Nat.pow_le_pow_right (n := 2) (i := 16) (by decide) (by omega)
    rw [Nat.testBit_lt_two_pow (Nat.lt_of_lt_of_le ha h2), Nat.testBit_lt_two_pow (Nat.lt_of_lt_of_le hb h2)]
theorem mk_of {m : Nat} (h : m < 65536) : m = mk m.testBit := mk_ext h (mk_lt _) (fun j hj => by rw [mk_bit, decide_eq_true hj, Bool.true_and])
theorem mk_cong {p q : Nat → Bool} (h : ∀ j, j < 16 → p j = q j) : mk p = mk q := mk_ext (mk_lt _) (mk_lt _) (fun j hj => by rw [mk_bit, mk_bit, h j hj])
theorem mk_or (p q : Nat → Bool) : nI (mk p) ||| nI (mk q) = nI (mk (fun j => p j || q j)) := by
  rw [mw_or]
  congr 1
  refine mk_ext (Nat.or_lt_two_pow (n := 16) (mk_lt _) (mk_lt _)) (mk_lt _) (fun j hj => ?_)
  rw [Nat.testBit_or, mk_bit, mk_bit, mk_bit, decide_eq_true hj]; rfl
theorem mk_and (p q : Nat → Bool) : nI (mk p) &&& nI (mk q) = nI (mk (fun j => p j && q j)) := by
  rw [mw_and]
  congr 1
  refine mk_ext (Nat.and_lt_two_pow (n := 16) _ (mk_lt _)) (mk_lt _) (fun j hj => ?_)
  rw [Nat.testBit_and, mk_bit, mk_bit, mk_bit, decide_eq_true hj]; rfl
theorem mk_zero : nI (mk (fun _ => false)) = 0 := by decide
theorem fbit_pow : ∀ i, i < 17 → f_bit (nI i) = nI (2 ^ i) := by decide +kernel
theorem fbit_mk {i : Nat} (h : i < 16) : f_bit (nI i) = nI (mk (fun j => decide (j = i))) := by
  rw [fbit_pow i (by omega)]
  congr 1
  refine mk_ext (Nat.pow_lt_pow_right (n := 16) (by decide) h) (mk_lt _) (fun j hj => ?_)
  rw [Nat.testBit_two_pow, mk_bit, decide_eq_true hj, Bool.true_and]
  exact decide_eq_decide.mpr ⟨fun e => e.symm, fun e => e.symm⟩
theorem mk_less (p : Nat → Bool) {i : Nat} (h : i < 16) : nI (mk p) &&& (f_bit (nI i) ^^^ (-1)) = nI (mk (fun j => p j && decide (j ≠ i))) := by
  rw [fbit_pow i (by omega), show (-1 : Int32) = nI 4294967295 from by decide, mw_xor, mw_and]
  congr 1
  refine mk_ext ?_ (mk_lt _) (fun j hj => ?_)
  · exact Nat.lt_of_le_of_lt Nat.and_le_left (mk_lt p)
  · rw [Nat.testBit_and, Nat.testBit_xor, Nat.testBit_two_pow, show (4294967295 : Nat) = 2 ^ 32 - 1 from by decide, Nat.testBit_two_pow_sub_one, mk_bit, mk_bit, decide_eq_true hj, decide_eq_true (show j < 32 by omega)]
    by_cases e : i = j
    · rw [decide_eq_true e, decide_eq_false (show ¬ j ≠ i from fun q => q e.symm)]; rfl
    · rw [decide_eq_false e, decide_eq_true (show j ≠ i from fun q => e q.symm)]; rfl
theorem mk_all : ∀ n, n ≤ 16 → f_bit (nI n) - 1 = nI (mk (fun j => decide (j < n))) := by
  intro n hn
  rw [fbit_pow n (by omega), show (1 : Int32) = nI 1 from rfl, pk_sub (Nat.two_pow_pos n)]
  congr 1
  refine mk_ext ?_ (mk_lt _) (fun j hj => ?_)
  · have : 2 ^ n ≤ 2 ^ 16 := Nat.pow_le_pow_right (by decide) hn
    have h0 := Nat.two_pow_pos n
    omega
  · rw [Nat.testBit_two_pow_sub_one, mk_bit, decide_eq_true hj, Bool.true_and]
theorem and_pow (m i : Nat) : (m &&& 2 ^ i = 0) ↔ m.testBit i = false := by
  constructor
  · intro e
    have : (m &&& 2 ^ i).testBit i = false := by rw [e]; exact Nat.zero_testBit i
    rw [Nat.testBit_and, Nat.testBit_two_pow, decide_eq_true (show i = i from rfl), Bool.and_true] at this
    exact this
  · intro e
    refine Nat.eq_of_testBit_eq (fun j => ?_)
    rw [Nat.testBit_and, Nat.testBit_two_pow, Nat.zero_testBit]
    by_cases q : i = j
    · subst q; rw [e]; rfl
    · rw [decide_eq_false q, Bool.and_false]
theorem mk_has (p : Nat → Bool) {i : Nat} (h : i < 16) : f_has (nI (mk p)) (nI i) = if p i then 1 else 0 := by
  unfold f_has
  rw [fbit_pow i (by omega), mw_and]
  have hl := mk_lt p
  have hlt : mk p &&& 2 ^ i < 2147483648 := Nat.lt_of_le_of_lt Nat.and_le_left (by omega)
  have e1 : (nI (mk p &&& 2 ^ i) = 0) ↔ p i = false := by
    rw [show (0 : Int32) = nI 0 from rfl, nI_eq hlt (by decide), and_pow, mk_bit, decide_eq_true h, Bool.true_and]
  cases hp : p i with
  | true => rw [if_neg (fun q => by rw [e1.mp q] at hp; exact absurd hp (by decide)), if_pos rfl]
  | false => rw [if_pos (e1.mpr hp), if_neg (by decide)]
theorem mk_bc (p : Nat → Bool) : f_bc (nI (mk p)) = nI (ct p 16) := by
  rw [f_bcN (mk_lt p)]
  congr 1
  exact ct_cong 16 (fun j hj => by rw [mk_bit, decide_eq_true hj, Bool.true_and])
theorem sh_l : ∀ k, k < 32 → ((nI k &&& 31).toBitVec.smod 32).toNat = k := by decide +kernel
/-- the reference's bit test -/
theorem mk_sh (p : Nat → Bool) {i : Nat} (h : i < 16) : (nI (mk p) >>> (nI i &&& 31)) &&& 1 = if p i then 1 else 0 := by
  have hl := mk_lt p
  rw [pk_shrN (by omega) (nI i &&& 31) i (sh_l i (by omega)), show (1 : Int32) = nI 1 from rfl, mw_and, Nat.and_one_is_mod]
  have h2 := mk_bit p i
  rw [decide_eq_true h, Bool.true_and, Nat.testBit_eq_decide_div_mod_eq] at h2
  cases hp : p i with
  | true =>
    rw [hp] at h2
    rw [of_decide_eq_true h2]; rfl
  | false =>
    rw [hp] at h2
    have := of_decide_eq_false h2
    rw [show mk p / 2 ^ i % 2 = 0 by omega]; rfl
