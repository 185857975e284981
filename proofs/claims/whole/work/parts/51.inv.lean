/-! PURE: one over a residue -/
def ivG : Nat → Nat → Nat → Nat
  | 0, _, r => r
  | d + 1, s, r => fz (Nat.mod (Nat.mul r s) 65521) fun r' => fz (Nat.mod (Nat.mul s s) 65521) fun s' => ivG d s' r'
def ivF (a : Nat) : Bool := fz (Nat.mod (Nat.mul a a) 65521) fun s1 => fz (Nat.mod (Nat.mul s1 s1) 65521) fun s2 => fz (Nat.mod (Nat.mul s2 s2) 65521) fun s3 => fz (Nat.mod (Nat.mul s3 s3) 65521) fun s4 => fz (Nat.mod (Nat.mul s4 s4) 65521) fun s5 => fz (Nat.mod (Nat.mul a s1) 65521) fun r1 => fz (Nat.mod (Nat.mul r1 s2) 65521) fun r2 => fz (Nat.mod (Nat.mul r2 s3) 65521) fun r3 => Nat.beq (Nat.mod (Nat.mul a (ivG 11 s5 r3)) 65521) 1
def ivT (a : Nat) : Bool := Nat.beq (Nat.mod a 2) 0 || (Nat.beq (Nat.mod a 3) 0 || (Nat.beq (Nat.mod a 5) 0 || (Nat.beq (Nat.mod a 7) 0 || ivF a)))
def alF (f : Nat → Bool) : Nat → Nat → Bool
  | 0, _ => true
  | d + 1, a => f a && fz (Nat.add a 1) (fun b => alF f d b)
def alG (f : Nat → Bool) : Nat → Nat → Bool
  | 0, _ => true
  | d + 1, a => alF f 256 a && fz (Nat.add a 256) (fun b => alG f d b)
theorem alF_ok {f : Nat → Bool} : ∀ d a, alF f d a = true → ∀ x, a ≤ x → x < a + d → f x = true
  | 0, a, _, x, h1, h2 => absurd h1 (by omega)
  | d + 1, a, h, x, h1, h2 => by
    unfold alF at h
    rw [fz_eq, Bool.and_eq_true] at h
    by_cases e : x = a
    · rw [e]; exact h.1
    · exact alF_ok d (a + 1) h.2 x (by omega) (by omega)
theorem alG_ok {f : Nat → Bool} : ∀ d a, alG f d a = true → ∀ x, a ≤ x → x < a + 256 * d → f x = true
  | 0, a, _, x, h1, h2 => absurd h1 (by omega)
  | d + 1, a, h, x, h1, h2 => by
    unfold alG at h
    rw [fz_eq, Bool.and_eq_true] at h
    by_cases e : x < a + 256
    · exact alF_ok 256 a h.1 x h1 e
    · exact alG_ok d (a + 256) h.2 x (by omega) (by omega)
set_option maxRecDepth 100000 in
theorem iv_c0 : alG ivT 64 1 = true := by decide +kernel
set_option maxRecDepth 100000 in
theorem iv_c1 : alG ivT 64 16385 = true := by decide +kernel
set_option maxRecDepth 100000 in
theorem iv_c2 : alG ivT 64 32769 = true := by decide +kernel
set_option maxRecDepth 100000 in
theorem iv_c3 : alG ivT 63 49153 = true := by decide +kernel
set_option maxRecDepth 100000 in
theorem iv_c4 : alF ivT 240 65281 = true := by decide +kernel
theorem iv_p2 : ivF 2 = true ∧ ivF 3 = true ∧ ivF 5 = true ∧ ivF 7 = true := by decide +kernel
theorem iv_all {a : Nat} (h1 : 1 ≤ a) (h2 : a < 65521) : ivT a = true := by
  by_cases q1 : a < 16385
  · exact alG_ok 64 1 iv_c0 a h1 (by omega)
  · by_cases q2 : a < 32769
    · exact alG_ok 64 16385 iv_c1 a (by omega) (by omega)
    · by_cases q3 : a < 49153
      · exact alG_ok 64 32769 iv_c2 a (by omega) (by omega)
      · by_cases q4 : a < 65281
        · exact alG_ok 63 49153 iv_c3 a (by omega) (by omega)
        · exact alF_ok 240 65281 iv_c4 a (by omega) (by omega)
theorem ivG_eq (a : Nat) : ∀ d k, 5 ≤ k → ivG d (sqN k a) (rpN k a) = rpN (k + d) a
  | 0, k, _ => rfl
  | d + 1, k, hk => by
    unfold ivG
    rw [fz_eq, fz_eq]
    have e1 : Nat.mod (Nat.mul (rpN k a) (sqN k a)) 65521 = rpN (k + 1) a := by
      show _ = if k = 4 then _ else _
      rw [if_neg (by omega)]; rfl
    have e2 : Nat.mod (Nat.mul (sqN k a) (sqN k a)) 65521 = sqN (k + 1) a := rfl
    rw [e1, e2, ivG_eq a d (k + 1) (by omega)]
    congr 1
    omega
theorem ivF_ok {a : Nat} (ha : a < 65521) (h : ivF a = true) : a * inv a % 65521 = 1 := by
  unfold ivF at h
  rw [fz_eq, fz_eq, fz_eq, fz_eq, fz_eq, fz_eq, fz_eq, fz_eq] at h
  have e1 : Nat.mod (Nat.mul a a) 65521 = sqN 1 a := rfl
  rw [e1] at h
  have e2 : Nat.mod (Nat.mul (sqN 1 a) (sqN 1 a)) 65521 = sqN 2 a := rfl
  rw [e2] at h
  have e3 : Nat.mod (Nat.mul (sqN 2 a) (sqN 2 a)) 65521 = sqN 3 a := rfl
  rw [e3] at h
  have e4 : Nat.mod (Nat.mul (sqN 3 a) (sqN 3 a)) 65521 = sqN 4 a := rfl
  rw [e4] at h
  have e5 : Nat.mod (Nat.mul (sqN 4 a) (sqN 4 a)) 65521 = sqN 5 a := rfl
  rw [e5] at h
  have r0 : rpN 1 a = a := by
    show 1 * a % 65521 = a
    rw [Nat.one_mul, Nat.mod_eq_of_lt ha]
  have r1 : Nat.mod (Nat.mul a (sqN 1 a)) 65521 = rpN 2 a := by
    show a * sqN 1 a % 65521 = rpN 1 a * sqN 1 a % 65521
    rw [r0]
  rw [r1] at h
  have r2 : Nat.mod (Nat.mul (rpN 2 a) (sqN 2 a)) 65521 = rpN 3 a := rfl
  rw [r2] at h
  have r3 : Nat.mod (Nat.mul (rpN 3 a) (sqN 3 a)) 65521 = rpN 5 a := rfl
  rw [r3, ivG_eq a 11 5 (by omega)] at h
  exact Nat.eq_of_beq_eq_true h
theorem sqN_mul (a b : Nat) : ∀ k, sqN k (a * b % 65521) % 65521 = sqN k a * sqN k b % 65521
  | 0 => Nat.mod_mod _ _
  | k + 1 => by
    show sqN k (a * b % 65521) * sqN k (a * b % 65521) % 65521 % 65521 = (sqN k a * sqN k a % 65521) * (sqN k b * sqN k b % 65521) % 65521
    rw [Nat.mod_mod, Nat.mul_mod, sqN_mul a b k, ← Nat.mul_mod, ← Nat.mul_mod]
    congr 1
    rw [Nat.mul_mul_mul_comm]
theorem rpN_mul (a b : Nat) : ∀ k, rpN k (a * b % 65521) % 65521 = rpN k a * rpN k b % 65521
  | 0 => rfl
  | k + 1 => by
    unfold rpN
    by_cases h : k = 4
    · rw [if_pos h, if_pos h, if_pos h]; exact rpN_mul a b k
    · rw [if_neg h, if_neg h, if_neg h, Nat.mod_mod, Nat.mul_mod, rpN_mul a b k, sqN_mul a b k, ← Nat.mul_mod, ← Nat.mul_mod]
      congr 1
      rw [Nat.mul_mul_mul_comm]
theorem inv_mul {a b : Nat} (hab : a * b < 65521) (ha : a * inv a % 65521 = 1) (hb : b * inv b % 65521 = 1) : a * b * inv (a * b) % 65521 = 1 := by
  have h := rpN_mul a b 16
  rw [Nat.mod_eq_of_lt hab, Nat.mod_eq_of_lt (rpN_lt _ 16)] at h
  show a * b * rpN 16 (a * b) % 65521 = 1
  rw [h, Nat.mul_mod_mod, Nat.mul_mul_mul_comm, Nat.mul_mod]
  show (a * inv a % 65521) * (b * inv b % 65521) % 65521 = 1
  rw [ha, hb]
theorem inv_ok : ∀ n a, a ≤ n → 1 ≤ a → a < 65521 → a * inv a % 65521 = 1
  | 0, a, h1, h2, h3 => absurd h2 (by omega)
  | n + 1, a, h1, h2, h3 => by
    have hp := iv_p2
    have step : ∀ q, 2 ≤ q → q < 65521 → ivF q = true → a % q = 0 → a * inv a % 65521 = 1 := fun q hq hq2 hf hm => by
      have e : a = q * (a / q) := by
        have := Nat.div_add_mod a q
        omega
      have hd : a / q < a := Nat.div_lt_self (by omega) (by omega)
      have hd1 : 1 ≤ a / q := by
        refine Nat.pos_of_ne_zero (fun z => ?_)
        rw [z, Nat.mul_zero] at e
        omega
      have h5 := inv_mul (a := q) (b := a / q) (by rw [← e]; exact h3) (ivF_ok hq2 hf) (inv_ok n (a / q) (by omega) hd1 (by omega))
      rw [← e] at h5
      exact h5
    have ht := iv_all h2 h3
    unfold ivT at ht
    rw [Bool.or_eq_true, Bool.or_eq_true, Bool.or_eq_true, Bool.or_eq_true] at ht
    rcases ht with q | q | q | q | q
    · exact step 2 (by omega) (by omega) hp.1 (Nat.eq_of_beq_eq_true q)
    · exact step 3 (by omega) (by omega) hp.2.1 (Nat.eq_of_beq_eq_true q)
    · exact step 5 (by omega) (by omega) hp.2.2.1 (Nat.eq_of_beq_eq_true q)
    · exact step 7 (by omega) (by omega) hp.2.2.2 (Nat.eq_of_beq_eq_true q)
    · exact ivF_ok h3 q
