/-! PURE: counting, and Integer.bitCount on sixteen bits -/
def ct (p : Nat → Bool) : Nat → Nat
  | 0 => 0
  | k + 1 => ct p k + (if p k then 1 else 0)
theorem ct_cong {p q : Nat → Bool} : ∀ n, (∀ k, k < n → p k = q k) → ct p n = ct q n
  | 0, _ => rfl
  | n + 1, h => by unfold ct; rw [ct_cong n (fun k hk => h k (by omega)), h n (by omega)]
theorem ct_le (p : Nat → Bool) : ∀ n, ct p n ≤ n
  | 0 => Nat.le_refl _
  | n + 1 => by have := ct_le p n; unfold ct; split <;> omega
def fz {α : Type} (x : Nat) (f : Nat → α) : α := match x with | 0 => f 0 | y + 1 => f (y + 1)
theorem fz_eq {α : Type} (x : Nat) (f : Nat → α) : fz x f = f x := by cases x <;> rfl
def bcG (m : Nat) : Nat := fz (Nat.sub m (Nat.land (Nat.div m 2) 1431655765)) fun x1 => fz (Nat.add (Nat.land x1 858993459) (Nat.land (Nat.div x1 4) 858993459)) fun x2 => fz (Nat.land (Nat.add x2 (Nat.div x2 16)) 252645135) fun x3 => fz (Nat.add x3 (Nat.div x3 256)) fun x4 => Nat.land (Nat.add x4 (Nat.div x4 65536)) 63
def trc : Nat → Nat → Nat → Bool
  | 0, m, c => Nat.beq (bcG m) c
  | k + 1, m, c => fz (Nat.mul 2 m) (fun z => trc k z c && fz (Nat.add z 1) (fun y => fz (Nat.add c 1) (fun d => trc k y d)))
theorem ct_top {k x y b : Nat} (hy : y < 2 ^ k) (hb : b < 2) (hx : x = b * 2 ^ k + y) : ct x.testBit (k + 1) = ct y.testBit k + b := by
  have h1 : ct x.testBit k = ct y.testBit k := ct_cong k (fun j hj => by
    have e : x = 2 ^ k * b + y := by rw [hx, Nat.mul_comm]
    rw [e, Nat.testBit_two_pow_mul_add b hy j, if_pos hj])
  have h2 : x.testBit k = decide (b = 1) := by
    have e : x = 2 ^ k * b + y := by rw [hx, Nat.mul_comm]
    rw [e, Nat.testBit_two_pow_mul_add b hy k, if_neg (by omega), Nat.sub_self]
    rcases (show b = 0 ∨ b = 1 by omega) with rfl | rfl <;> rfl
  show ct x.testBit k + (if x.testBit k then 1 else 0) = _
  rw [h1, h2]
  rcases (show b = 0 ∨ b = 1 by omega) with rfl | rfl <;> rfl
theorem trc_ok : ∀ k m c, trc k m c = true → ∀ x, x < 2 ^ k → bcG (m * 2 ^ k + x) = c + ct x.testBit k
  | 0, m, c, h, x, hx => by
    have : x = 0 := by omega
    subst this
    have e : bcG m = c := Nat.eq_of_beq_eq_true h
    rw [Nat.pow_zero, Nat.mul_one]; exact e
  | k + 1, m, c, h, x, hx => by
    unfold trc at h
    rw [fz_eq, fz_eq, fz_eq, Bool.and_eq_true] at h
    have hp : 2 ^ (k + 1) = 2 * 2 ^ k := by rw [Nat.pow_succ, Nat.mul_comm]
    by_cases hq : x < 2 ^ k
    · have := trc_ok k _ _ h.1 x hq
      rw [ct_top (b := 0) hq (by omega) (by omega), hp, show m * (2 * 2 ^ k) = Nat.mul 2 m * 2 ^ k from by rw [← Nat.mul_assoc]; congr 1; exact Nat.mul_comm _ _, this]; rfl
    · have h3 : x - 2 ^ k < 2 ^ k := by omega
      have := trc_ok k _ _ h.2 (x - 2 ^ k) h3
      rw [ct_top (b := 1) h3 (by omega) (by omega)]
      have e : m * 2 ^ (k + 1) + x = (Nat.mul 2 m).add 1 * 2 ^ k + (x - 2 ^ k) := by
        show _ = (2 * m + 1) * 2 ^ k + _
        rw [hp, Nat.add_mul, ← Nat.mul_assoc, Nat.mul_comm m 2]; omega
      rw [e, this]
      show c + 1 + _ = _
      omega
set_option maxRecDepth 100000 in
theorem trc_all : trc 16 0 0 = true := by decide +kernel
theorem bcG_ct {m : Nat} (h : m < 65536) : bcG m = ct m.testBit 16 := by
  have := trc_ok 16 0 0 trc_all m h
  rw [Nat.zero_mul, Nat.zero_add, Nat.zero_add] at this
  exact this
