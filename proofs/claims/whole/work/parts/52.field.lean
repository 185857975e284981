/-! PURE: the residues as a ring; sums -/
abbrev FP : Type := Fin 65521
def cf (a : Nat) : FP := Fin.ofNat 65521 a
theorem cf_val {a : Nat} (h : a < 65521) : (cf a).val = a := Nat.mod_eq_of_lt h
theorem cf_of (v : FP) : cf v.val = v := Fin.ext (Nat.mod_eq_of_lt v.isLt)
theorem cf_inj {a b : Nat} (ha : a < 65521) (hb : b < 65521) (h : cf a = cf b) : a = b := by
  have := congrArg Fin.val h
  rw [cf_val ha, cf_val hb] at this
  exact this
theorem cf_mod (a : Nat) : cf (a % 65521) = cf a := Fin.ext (Nat.mod_mod a 65521)
theorem cf_mul (a b : Nat) : cf (a * b) = cf a * cf b := Fin.ext (Nat.mul_mod a b 65521)
theorem cf_0 : cf 0 = 0 := rfl
theorem cf_1 : cf 1 = 1 := rfl
theorem fp_sub (u v : FP) : (u - v).val = sbm u.val v.val := by
  show (65521 - v.val + u.val) % 65521 = (u.val + (65521 - v.val)) % 65521
  rw [Nat.add_comm]
theorem cf_sbm {a b : Nat} (ha : a < 65521) (hb : b < 65521) : cf (sbm a b) = cf a - cf b := by
  refine Fin.ext ?_
  rw [fp_sub, cf_val ha, cf_val hb, cf_val (sbm_lt _ _)]
theorem cf_inv {a : Nat} (h0 : a ≠ 0) (h : a < 65521) : cf a * cf (inv a) = 1 := by
  rw [← cf_mul, ← cf_mod, inv_ok a a (Nat.le_refl a) (by omega) h]; rfl
def fI (v : FP) : Int32 := nI v.val
theorem fI_cf {a : Nat} (h : a < 65521) : nI a = fI (cf a) := by unfold fI; rw [cf_val h]
theorem fI_minus (u v : FP) : f_minus (fI u) (fI v) = fI (u - v) := by
  unfold fI
  rw [pn_minus u.isLt v.isLt, fp_sub]
theorem fI_times (u v : FP) : f_times (fI u) (fI v) = fI (u * v) := by
  unfold fI
  rw [pn_times u.isLt v.isLt]; rfl
def sf (f : Nat → FP) : Nat → FP
  | 0 => 0
  | n + 1 => sf f n + f n
theorem sf_cong {f g : Nat → FP} : ∀ n, (∀ k, k < n → f k = g k) → sf f n = sf g n
  | 0, _ => rfl
  | n + 1, h => by unfold sf; rw [sf_cong n (fun k hk => h k (by omega)), h n (by omega)]
theorem sf_add (f g : Nat → FP) : ∀ n, sf (fun k => f k + g k) n = sf f n + sf g n
  | 0 => rfl
  | n + 1 => by
    show sf (fun k => f k + g k) n + (f n + g n) = sf f n + f n + (sf g n + g n)
    rw [sf_add f g n]; grind
theorem sf_mul (c : FP) (f : Nat → FP) : ∀ n, sf (fun k => c * f k) n = c * sf f n
  | 0 => by show (0 : FP) = c * 0; grind
  | n + 1 => by
    show sf (fun k => c * f k) n + c * f n = c * (sf f n + f n)
    rw [sf_mul c f n]; grind
theorem sf_zero : ∀ n, sf (fun _ => 0) n = 0
  | 0 => rfl
  | n + 1 => by show sf (fun _ => 0) n + 0 = 0; rw [sf_zero n]; rfl
theorem sf_none {f : Nat → FP} (n : Nat) (h : ∀ k, k < n → f k = 0) : sf f n = 0 := (sf_cong n h).trans (sf_zero n)
theorem sf_comm (f : Nat → Nat → FP) (n : Nat) : ∀ m, sf (fun i => sf (fun j => f i j) n) m = sf (fun j => sf (fun i => f i j) m) n
  | 0 => (sf_zero n).symm
  | m + 1 => by
    show sf (fun i => sf (fun j => f i j) n) m + sf (fun j => f m j) n = sf (fun j => sf (fun i => f i j) m + f m j) n
    rw [sf_comm f n m, sf_add]
theorem sf_cut {f : Nat → FP} {k : Nat} : ∀ n, k ≤ n → (∀ m, k ≤ m → m < n → f m = 0) → sf f n = sf f k
  | 0, h, _ => by rw [show k = 0 by omega]
  | n + 1, h, hz => by
    by_cases e : k = n + 1
    · rw [e]
    · show sf f n + f n = _
      rw [sf_cut n (by omega) (fun m h1 h2 => hz m h1 (by omega)), hz n (by omega) (by omega)]
      exact Fin.add_zero _
theorem sf_one (v : Nat → FP) (c : Nat) : ∀ n, c < n → sf (fun j => if j = c then v j else 0) n = v c
  | 0, h => absurd h (by omega)
  | n + 1, h => by
    show sf (fun j => if j = c then v j else 0) n + (if n = c then v n else 0) = _
    by_cases e : n = c
    · subst e
      rw [sf_none n (fun k hk => if_neg (by omega)), if_pos rfl]
      exact Fin.zero_add _
    · rw [sf_one v c n (by omega), if_neg e]
      exact Fin.add_zero _
theorem sf_perm {n : Nat} {σ τ : Nat → Nat} (h : ∀ k, k < n → σ k < n ∧ τ k < n ∧ τ (σ k) = k ∧ σ (τ k) = k) (f : Nat → FP) : sf (fun m => f (σ m)) n = sf f n := by
  have e1 : sf (fun m => f (σ m)) n = sf (fun m => sf (fun j => if j = σ m then f j else 0) n) n := sf_cong n (fun m hm => (sf_one f (σ m) n (h m hm).1).symm)
  rw [e1, sf_comm]
  refine sf_cong n (fun j hj => ?_)
  have e2 : sf (fun m => if j = σ m then f j else 0) n = sf (fun m => if m = τ j then f j else 0) n := sf_cong n (fun m hm => by
    by_cases e : j = σ m
    · rw [if_pos e, if_pos (show m = τ j by rw [e]; exact (h m hm).2.2.1.symm)]
    · rw [if_neg e, if_neg (fun e3 : m = τ j => e (by rw [e3]; exact (h j hj).2.2.2.symm))])
  rw [e2, sf_one (fun _ => f j) (τ j) n (h j hj).2.1]
