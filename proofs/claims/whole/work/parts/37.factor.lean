/-! PURE: factor and update -/
def stg (A : Nat → Nat → Nat) (σ : Nat → Nat) : Nat → (Nat → Nat) × (Nat → Nat → Nat)
  | 0 => (fun _ => 0, fun _ _ => 0)
  | k + 1 => (fun m => if m = k then rst A σ (stg A σ k).1 (stg A σ k).2 k k k else (stg A σ k).1 m, fun i m => if m = k then rst A σ (stg A σ k).1 (stg A σ k).2 i k k * inv (rst A σ (stg A σ k).1 (stg A σ k).2 k k k) % 65521 else (stg A σ k).2 i m)
def Dp (A : Nat → Nat → Nat) (σ : Nat → Nat) (k : Nat) : Nat := (stg A σ (k + 1)).1 k
def Lp (A : Nat → Nat → Nat) (σ : Nat → Nat) (i k : Nat) : Nat := (stg A σ (k + 1)).2 i k
theorem stg_keep (A : Nat → Nat → Nat) (σ : Nat → Nat) : ∀ k m, m < k → (stg A σ k).1 m = Dp A σ m ∧ ∀ i, (stg A σ k).2 i m = Lp A σ i m
  | 0, m, h => absurd h (by omega)
  | k + 1, m, h => by
    by_cases hm : m = k
    · subst hm; exact ⟨rfl, fun _ => rfl⟩
    · have ih := stg_keep A σ k m (by omega)
      refine ⟨?_, fun i => ?_⟩
      · show (if m = k then _ else _) = _
        rw [if_neg hm]; exact ih.1
      · show (if m = k then _ else _) = _
        rw [if_neg hm]; exact ih.2 i
theorem rst_cong {A : Nat → Nat → Nat} {σ D D' : Nat → Nat} {Lf Lf' : Nat → Nat → Nat} {i k : Nat} : ∀ c, (∀ m, m < c → D m = D' m ∧ Lf i m = Lf' i m ∧ Lf k m = Lf' k m) → rst A σ D Lf i k c = rst A σ D' Lf' i k c
  | 0, _ => rfl
  | c + 1, h => by
    unfold rst
    rw [rst_cong c (fun m hm => h m (by omega)), (h c (by omega)).1, (h c (by omega)).2.1, (h c (by omega)).2.2]
theorem Dp_eq (A : Nat → Nat → Nat) (σ : Nat → Nat) (k : Nat) : Dp A σ k = rst A σ (Dp A σ) (Lp A σ) k k k := by
  have h : Dp A σ k = rst A σ (stg A σ k).1 (stg A σ k).2 k k k := if_pos rfl
  rw [h]
  exact rst_cong k (fun m hm => ⟨(stg_keep A σ k m hm).1, (stg_keep A σ k m hm).2 k, (stg_keep A σ k m hm).2 k⟩)
theorem Lp_eq (A : Nat → Nat → Nat) (σ : Nat → Nat) (i k : Nat) : Lp A σ i k = rst A σ (Dp A σ) (Lp A σ) i k k * inv (Dp A σ k) % 65521 := by
  have h : Lp A σ i k = rst A σ (stg A σ k).1 (stg A σ k).2 i k k * inv (rst A σ (stg A σ k).1 (stg A σ k).2 k k k) % 65521 := if_pos rfl
  have h2 : Dp A σ k = rst A σ (stg A σ k).1 (stg A σ k).2 k k k := if_pos rfl
  rw [h, ← h2, rst_cong (i := i) (k := k) k (fun m hm => ⟨(stg_keep A σ k m hm).1, (stg_keep A σ k m hm).2 i, (stg_keep A σ k m hm).2 k⟩)]
theorem rst_lt {A : Nat → Nat → Nat} (hA : ∀ i j, A i j < 65521) {σ D : Nat → Nat} {Lf : Nat → Nat → Nat} {i k : Nat} : ∀ c, rst A σ D Lf i k c < 65521
  | 0 => hA _ _
  | c + 1 => sbm_lt _ _
theorem Dp_lt {A : Nat → Nat → Nat} (hA : ∀ i j, A i j < 65521) (σ : Nat → Nat) (k : Nat) : Dp A σ k < 65521 := by rw [Dp_eq]; exact rst_lt hA k
theorem Lp_lt (A : Nat → Nat → Nat) (σ : Nat → Nat) (i k : Nat) : Lp A σ i k < 65521 := by rw [Lp_eq]; exact Nat.mod_lt _ (by decide)
theorem md_lt (a : Nat) : a % 65521 < 65521 := Nat.mod_lt _ (by decide)
theorem sp_rem {n : Nat} {A : Nat → Nat → Nat} {σ τ ri we : Nat → Nat} (hW : WF n A σ τ ri we) {Pr Fk Fr : Int32} {pe po pp pr pw fb fp : Nat → Int32} (hC : CP n A σ τ ri we Pr pe po pp pr pw) {i k : Nat} (hi : i < n) (hki : k ≤ i) (h1 : ∀ m, m < k → fp m = nI (Dp A σ m)) (h2 : ∀ i m, m < k → m < i → i < n → fb (16 * i + m) = nI (Lp A σ i m)) {Q : Int32 → Prop} (h : Q (nI (rst A σ (Dp A σ) (Lp A σ) i k k))) : wp_X1_remainder (nI i) (nI k) Pr po pe Fk Fr fb fp Q := by
  have hn := hW.2.1
  intro G1 g1
  have k1 : ∀ m, m ≤ k → G1 (nI m) (nI (rst A σ (Dp A σ) (Lp A σ) i k m)) := by
    refine pu_down k ?_ ?_
    · exact g1 _ _ ⟨fun _ => h, fun c => absurd (nI_le (Nat.le_refl k) (by omega)) c⟩
    · intro m hm ih
      refine g1 _ _ ⟨fun c => absurd c (nI_ge hm (by omega)), fun _ => ⟨by rw [pn_cell]; exact pn_in (by omega) (by decide), by rw [pn_cell]; exact pn_in (by omega) (by decide), fun x hx => ⟨pn_in (by omega) (by decide), fun y hy z hz => ?_⟩⟩⟩
      rw [hz, hy, hx, nI_1, pn_cell, pn_cell, pn_cl (by omega), pn_cl (by omega), pn_cl (by omega), h1 m hm, h2 i m hm (by omega) hi, h2 k m hm hm (by omega), pn_times (Lp_lt _ _ _ _) (Lp_lt _ _ _ _), pn_times (md_lt _) (Dp_lt hW.2.2.1 _ _), pn_minus (rst_lt hW.2.2.1 _) (md_lt _)]
      exact ih
  have hs1 := (hW.2.2.2.2.2.1 i hi).1
  have hs2 := (hW.2.2.2.2.2.1 k (by omega)).1
  refine ⟨pn_in (by omega) (by decide), pn_in (by omega) (by decide), ?_⟩
  rw [pn_cl (by omega), pn_cl (by omega), (hC.2.2 i hi).1, (hC.2.2 k (by omega)).1, pn_cell, pn_cl (by omega), hC.2.1 _ _ hs1 hs2]
  exact ⟨pn_in (by omega) (by decide), k1 0 (by omega)⟩
theorem sp_rest {n : Nat} {A : Nat → Nat → Nat} {σ τ ri we : Nat → Nat} (hW : WF n A σ τ ri we) {mt mn mh ms mv : Int32} {ma ro pl mr mw ml mp : Nat → Int32} (hM : MP n A σ τ ri we mn ma ro pl mr mw) {i k : Nat} (hi : i < n) (hki : k ≤ i) (h1 : ∀ m, m < k → mp m = nI (Dp A σ m)) (h2 : ∀ i m, m < k → m < i → i < n → ml (16 * i + m) = nI (Lp A σ i m)) {Q : Int32 → Prop} (h : Q (nI (rst A σ (Dp A σ) (Lp A σ) i k k))) : wp_X5_rest (nI i) (nI k) (nI k) mt mn mh ms mv ro ma ml mp Q := by
  have hn := hW.2.1
  intro G1 g1
  have k1 : ∀ m, m ≤ k → G1 (nI m) (nI (rst A σ (Dp A σ) (Lp A σ) i k m)) := by
    refine pu_down k ?_ ?_
    · exact g1 _ _ ⟨fun _ => h, fun c => absurd (nI_le (Nat.le_refl k) (by omega)) c⟩
    · intro m hm ih
      refine g1 _ _ ⟨fun c => absurd c (nI_ge hm (by omega)), fun _ => ⟨by rw [pn_at]; exact pn_in (by omega) (by decide), by rw [pn_at]; exact pn_in (by omega) (by decide), pn_in (by omega) (by decide), fun y hy z hz => ?_⟩⟩
      rw [hz, hy, nI_1, pn_at, pn_at, pn_cl (by omega), pn_cl (by omega), pn_cl (by omega), h1 m hm, h2 i m hm (by omega) hi, h2 k m hm hm (by omega), pn_times (Lp_lt _ _ _ _) (Lp_lt _ _ _ _), pn_times (md_lt _) (Dp_lt hW.2.2.1 _ _), pn_gminus (rst_lt hW.2.2.1 _) (md_lt _)]
      exact ih
  have hs1 := (hW.2.2.2.2.2.1 i hi).1
  have hs2 := (hW.2.2.2.2.2.1 k (by omega)).1
  refine ⟨pn_in (by omega) (by decide), pn_in (by omega) (by decide), ?_⟩
  rw [pn_cl (by omega), pn_cl (by omega), (hM.2.2.1 i (by omega)).1, (hM.2.2.1 k (by omega)).1, pn_at, pn_cl (by omega), hM.2.1 _ _ hs1 hs2]
  exact ⟨pn_in (by omega) (by decide), fun x hx => by rw [hx]; exact k1 0 (by omega)⟩
/-- what the class has found behind k columns -/
def IF1 (n : Nat) (A : Nat → Nat → Nat) (σ : Nat → Nat) (k : Nat) (fb fp fr : Nat → Int32) : Prop := (∀ m, m < k → Dp A σ m ≠ 0 ∧ fp m = nI (Dp A σ m) ∧ fr m = nI (inv (Dp A σ m))) ∧ (∀ i m, m < k → m < i → i < n → fb (16 * i + m) = nI (Lp A σ i m))
def IF5 (n : Nat) (A : Nat → Nat → Nat) (σ : Nat → Nat) (k : Nat) (ml mp : Nat → Int32) : Prop := (∀ m, m < k → Dp A σ m ≠ 0 ∧ mp m = nI (Dp A σ m)) ∧ (∀ i m, m < k → m < i → i < n → ml (16 * i + m) = nI (Lp A σ i m))
theorem sp_find1 {n : Nat} {A : Nat → Nat → Nat} {σ τ ri we : Nat → Nat} (hW : WF n A σ τ ri we) {Fk Fr : Int32} {pe po pp pr pw fb fp fr : Nat → Int32} (hC : CP n A σ τ ri we (nI n) pe po pp pr pw) {Q : Int32 → Int32 → Int32 → (Nat → Int32) → (Nat → Int32) → (Nat → Int32) → Prop} (hy : ∀ fb fp fr, IF1 n A σ n fb fp fr → Q (nI n) 1 (nI n) fb fp fr) (hno : ∀ k, k < n → Dp A σ k = 0 → (∀ m, m < k → Dp A σ m ≠ 0) → ∀ fb fp fr, Q (nI k) 0 (nI n) fb fp fr) : wp_X1_find Fk Fr (nI n) po pe fb fp fr Q := by
  have hn := hW.2.1
  intro G1 G2 g1 g2
  have k1 : ∀ k, k ≤ n → ∀ fb fp fr, IF1 n A σ k fb fp fr → G1 (nI k) 0 (nI n) fb fp fr := by
    refine pu_down n ?_ ?_
    · intro fb fp fr hI
      exact g1 _ _ _ _ _ _ ⟨fun _ => hy _ _ _ hI, fun c => absurd (nI_le (Nat.le_refl n) (by omega)) c⟩
    · intro k hk ih fb fp fr hI
      refine g1 _ _ _ _ _ _ ⟨fun c => absurd c (nI_ge hk (by omega)), fun _ => ?_⟩
      refine sp_rem hW hC hk (Nat.le_refl k) (fun m hm => (hI.1 m hm).2.1) (fun i m h1 h2 h3 => hI.2 i m h1 h2 h3) ?_
      rw [← Dp_eq]
      have hd := Dp_lt hW.2.2.1 σ k
      refine ⟨fun c => hno k hk ?_ (fun m hm => (hI.1 m hm).1) _ _ _, fun c => ⟨pn_in (by omega) (by decide), pn_in (by omega) (by decide), fun x hx => ?_⟩⟩
      · exact (nI_eq (by omega) (by omega)).mp c
      · have hd0 : Dp A σ k ≠ 0 := fun e => c (by rw [e]; rfl)
        rw [hx, nI_1, pn_cl (by omega), pn_rec hd]
        have k2 : ∀ i, i ≤ n → k + 1 ≤ i → ∀ fb, (∀ r m, m < k → m < r → r < n → fb (16 * r + m) = nI (Lp A σ r m)) → (∀ r, k < r → r < i → fb (16 * r + k) = nI (Lp A σ r k)) → G2 (nI i) (nI (Dp A σ k)) (nI k) 0 (nI n) fb (upd fp k (nI (Dp A σ k))) (upd fr k (nI (inv (Dp A σ k)))) := by
          refine pu_down n ?_ ?_
          · intro _ fb hb1 hb2
            refine g2 _ _ _ _ _ _ _ _ ⟨fun _ y hy => ?_, fun c => absurd (nI_le (Nat.le_refl n) (by omega)) c⟩
            rw [hy, nI_1]
            refine ih _ _ _ ⟨fun m hm => ?_, fun i m h1 h2 h3 => ?_⟩
            · by_cases hmk : m = k
              · subst hmk; exact ⟨hd0, pk_us, pk_us⟩
              · have := hI.1 m (by omega)
                exact ⟨this.1, by rw [pk_un hmk]; exact this.2.1, by rw [pk_un hmk]; exact this.2.2⟩
            · by_cases hmk : m = k
              · subst hmk; exact hb2 i h2 h3
              · exact hb1 i m (by omega) h2 h3
          · intro i hi ih2 hki fb hb1 hb2
            refine g2 _ _ _ _ _ _ _ _ ⟨fun c => absurd c (nI_ge hi (by omega)), fun _ => ?_⟩
            refine sp_rem hW hC hi (by omega) (fun m hm => by rw [pk_un (by omega)]; exact (hI.1 m hm).2.1) (fun i m h1 h2 h3 => hb1 i m h1 h2 h3) ?_
            refine ⟨pn_in (by omega) (by decide), by rw [pn_cell]; exact pn_in (by omega) (by decide), fun y hy => ?_⟩
            rw [hy, nI_1, pn_cell, pn_cl (by omega), pn_cl (by omega), pk_us, pn_times (rst_lt hW.2.2.1 _) (inv_lt _), ← Lp_eq]
            refine ih2 (by omega) _ (fun r m h1 h2 h3 => ?_) (fun r h1 h2 => ?_)
            · rw [pk_un (by omega)]; exact hb1 r m h1 h2 h3
            · by_cases hri : r = i
              · subst hri; exact pk_us
              · rw [pk_un (by omega)]; exact hb2 r h1 (by omega)
        exact k2 (k + 1) (by omega) (Nat.le_refl _) fb hI.2 (fun r h1 h2 => absurd h1 (by omega))
  exact k1 0 (by omega) _ _ _ ⟨fun m hm => absurd hm (by omega), fun i m hm => absurd hm (by omega)⟩
theorem sp_find5 {n : Nat} {A : Nat → Nat → Nat} {σ τ ri we : Nat → Nat} (hW : WF n A σ τ ri we) {mt mh ms mv : Int32} {ma ro pl mr mw ml mp : Nat → Int32} (hM : MP n A σ τ ri we (nI n) ma ro pl mr mw) {Q : Int32 → Int32 → (Nat → Int32) → (Nat → Int32) → Prop} (hy : ∀ ml mp, IF5 n A σ n ml mp → Q (nI n) 1 ml mp) (hno : ∀ k, k < n → Dp A σ k = 0 → (∀ m, m < k → Dp A σ m ≠ 0) → ∀ ml mp, Q (nI k) 0 ml mp) : wp_X5_find mt (nI n) mh ms mv ro ma ml mp Q := by
  have hn := hW.2.1
  intro G1 G2 g1 g2
  have k1 : ∀ k, k ≤ n → ∀ ml mp, IF5 n A σ k ml mp → G1 (nI k) 0 ml mp := by
    refine pu_down n ?_ ?_
    · intro ml mp hI
      exact g1 _ _ _ _ ⟨fun _ => hy _ _ hI, fun c => absurd (nI_le (Nat.le_refl n) (by omega)) c⟩
    · intro k hk ih ml mp hI
      refine g1 _ _ _ _ ⟨fun c => absurd c (nI_ge hk (by omega)), fun _ => ?_⟩
      refine sp_rest hW hM hk (Nat.le_refl k) (fun m hm => (hI.1 m hm).2) (fun i m h1 h2 h3 => hI.2 i m h1 h2 h3) ?_
      rw [← Dp_eq]
      have hd := Dp_lt hW.2.2.1 σ k
      rw [pn_cl (show k < 2147483648 by omega), pk_us]
      refine ⟨pn_in (by omega) (by decide), pn_in (by omega) (by decide), fun c => hno k hk ?_ (fun m hm => (hI.1 m hm).1) _ _, fun c => ⟨pn_in (by omega) (by decide), fun w hw x hx => ?_⟩⟩
      · exact (nI_eq (by omega) (by omega)).mp c
      · have hd0 : Dp A σ k ≠ 0 := fun e => c (by rw [e]; rfl)
        rw [hx, hw, nI_1, pn_rec hd]
        have k2 : ∀ i, i ≤ n → k + 1 ≤ i → ∀ ml, (∀ r m, m < k → m < r → r < n → ml (16 * r + m) = nI (Lp A σ r m)) → (∀ r, k < r → r < i → ml (16 * r + k) = nI (Lp A σ r k)) → G2 (nI i) (nI (inv (Dp A σ k))) (nI k) 0 ml (upd mp k (nI (Dp A σ k))) := by
          refine pu_down n ?_ ?_
          · intro _ fb hb1 hb2
            refine g2 _ _ _ _ _ _ ⟨fun _ y hy => ?_, fun c => absurd (nI_le (Nat.le_refl n) (by omega)) c⟩
            rw [hy, nI_1]
            refine ih _ _ ⟨fun m hm => ?_, fun i m h1 h2 h3 => ?_⟩
            · by_cases hmk : m = k
              · subst hmk; exact ⟨hd0, pk_us⟩
              · have := hI.1 m (by omega)
                exact ⟨this.1, by rw [pk_un hmk]; exact this.2⟩
            · by_cases hmk : m = k
              · subst hmk; exact hb2 i h2 h3
              · exact hb1 i m (by omega) h2 h3
          · intro i hi ih2 hki fb hb1 hb2
            refine g2 _ _ _ _ _ _ ⟨fun c => absurd c (nI_ge hi (by omega)), fun _ => ?_⟩
            refine sp_rest hW hM hi (by omega) (fun m hm => by rw [pk_un (by omega)]; exact (hI.1 m hm).2) (fun i m h1 h2 h3 => hb1 i m h1 h2 h3) ?_
            refine ⟨by rw [pn_at]; exact pn_in (by omega) (by decide), fun y hy => ?_⟩
            rw [hy, nI_1, pn_at, pn_cl (by omega), pn_times (rst_lt hW.2.2.1 _) (inv_lt _), ← Lp_eq]
            refine ih2 (by omega) _ (fun r m h1 h2 h3 => ?_) (fun r h1 h2 => ?_)
            · rw [pk_un (by omega)]; exact hb1 r m h1 h2 h3
            · by_cases hri : r = i
              · subst hri; exact pk_us
              · rw [pk_un (by omega)]; exact hb2 r h1 (by omega)
        exact k2 (k + 1) (by omega) (Nat.le_refl _) ml hI.2 (fun r h1 h2 => absurd h1 (by omega))
  exact k1 0 (by omega) _ _ ⟨fun m hm => absurd hm (by omega), fun i m hm => absurd hm (by omega)⟩
theorem FA_yes {n : Nat} {A : Nat → Nat → Nat} {σ : Nat → Nat} (hA : ∀ i j, A i j < 65521) {fp fr fb mp ml : Nat → Int32} (h1 : IF1 n A σ n fb fp fr) (h5 : IF5 n A σ n ml mp) : FA n A σ true 1 (nI n) fp fr fb 1 mp ml :=
  ⟨rfl, rfl, fun _ => ⟨Dp A σ, Lp A σ, ⟨fun k hk => ⟨Dp_lt hA σ k, (h1.1 k hk).1⟩, Lp_lt A σ, fun k _ => Dp_eq A σ k, fun i k _ _ => Lp_eq A σ i k⟩, rfl, fun k hk => ⟨(h1.1 k hk).2.1, (h5.1 k hk).2, (h1.1 k hk).2.2⟩, fun i k h h' => ⟨h1.2 i k (by omega) h h', h5.2 i k (by omega) h h'⟩⟩⟩
theorem dp_one {A : Nat → Nat → Nat} {σ : Nat → Nat} {k k' : Nat} (h1 : Dp A σ k = 0) (h2 : ∀ m, m < k → Dp A σ m ≠ 0) (h3 : Dp A σ k' = 0) (h4 : ∀ m, m < k' → Dp A σ m ≠ 0) : k = k' := by
  rcases Nat.lt_trichotomy k k' with h | h | h
  · exact absurd h1 (h4 k h)
  · exact h
  · exact absurd h3 (h2 k' h)
theorem pure_23 {L : Nat} {xs : Nat → Int32} {i : Nat} (hL : L ≤ 2048) (hi : 4 * i + 4 ≤ L) {X_solved : Int32} {X_levelCount : Int32} {P_rows : Int32} {P_entries : (Nat → Int32)} {P_order : (Nat → Int32)} {P_places : (Nat → Int32)} {P_rights : (Nat → Int32)} {P_weights : (Nat → Int32)} {L0_rows : Int32} {L0_entries : (Nat → Int32)} {L0_order : (Nat → Int32)} {L0_places : (Nat → Int32)} {L0_rights : (Nat → Int32)} {L0_weights : (Nat → Int32)} {L1_rows : Int32} {L1_entries : (Nat → Int32)} {L1_order : (Nat → Int32)} {L1_places : (Nat → Int32)} {L1_rights : (Nat → Int32)} {L1_weights : (Nat → Int32)} {L2_rows : Int32} {L2_entries : (Nat → Int32)} {L2_order : (Nat → Int32)} {L2_places : (Nat → Int32)} {L2_rights : (Nat → Int32)} {L2_weights : (Nat → Int32)} {L3_rows : Int32} {L3_entries : (Nat → Int32)} {L3_order : (Nat → Int32)} {L3_places : (Nat → Int32)} {L3_rights : (Nat → Int32)} {L3_weights : (Nat → Int32)} {L4_rows : Int32} {L4_entries : (Nat → Int32)} {L4_order : (Nat → Int32)} {L4_places : (Nat → Int32)} {L4_rights : (Nat → Int32)} {L4_weights : (Nat → Int32)} {L5_rows : Int32} {L5_entries : (Nat → Int32)} {L5_order : (Nat → Int32)} {L5_places : (Nat → Int32)} {L5_rights : (Nat → Int32)} {L5_weights : (Nat → Int32)} {E_joined : (Nat → Int32)} {E_later : (Nat → Int32)} {E_paths : (Nat → Int32)} {F_known : Int32} {F_rows : Int32} {F_pivots : (Nat → Int32)} {F_reciprocals : (Nat → Int32)} {F_below : (Nat → Int32)} {R_cells : (Nat → Int32)} {X_vector : (Nat → Int32)} {X_solution : (Nat → Int32)} {M_thrown : Int32} {M_n : Int32} {M_hasFactors : Int32} {M_hasSolution : Int32} {M_levels : Int32} {M_a : (Nat → Int32)} {M_rowAt : (Nat → Int32)} {M_places : (Nat → Int32)} {M_rights : (Nat → Int32)} {M_weights : (Nat → Int32)} {M_pivots : (Nat → Int32)} {M_lower : (Nat → Int32)} {M_solution : (Nat → Int32)} {M_work : (Nat → Int32)} {M_isJoined : (Nat → Int32)} {M_stored : (Nat → Int32)} {O_out : (Nat → Int64)} (hR : Rel X_solved X_levelCount P_rows P_entries P_order P_places P_rights P_weights L0_rows L0_entries L0_order L0_places L0_rights L0_weights L1_rows L1_entries L1_order L1_places L1_rights L1_weights L2_rows L2_entries L2_order L2_places L2_rights L2_weights L3_rows L3_entries L3_order L3_places L3_rights L3_weights L4_rows L4_entries L4_order L4_places L4_rights L4_weights L5_rows L5_entries L5_order L5_places L5_rights L5_weights E_joined E_later E_paths F_known F_rows F_pivots F_reciprocals F_below R_cells X_vector X_solution M_thrown M_n M_hasFactors M_hasSolution M_levels M_a M_rowAt M_places M_rights M_weights M_pivots M_lower M_solution M_work M_isJoined M_stored O_out) {G : Int32 → Int32 → Int32 → Int32 → (Nat → Int32) → (Nat → Int32) → (Nat → Int32) → (Nat → Int32) → (Nat → Int32) → Int32 → (Nat → Int32) → (Nat → Int32) → (Nat → Int32) → (Nat → Int32) → (Nat → Int32) → Int32 → (Nat → Int32) → (Nat → Int32) → (Nat → Int32) → (Nat → Int32) → (Nat → Int32) → Int32 → (Nat → Int32) → (Nat → Int32) → (Nat → Int32) → (Nat → Int32) → (Nat → Int32) → Int32 → (Nat → Int32) → (Nat → Int32) → (Nat → Int32) → (Nat → Int32) → (Nat → Int32) → Int32 → (Nat → Int32) → (Nat → Int32) → (Nat → Int32) → (Nat → Int32) → (Nat → Int32) → Int32 → (Nat → Int32) → (Nat → Int32) → (Nat → Int32) → (Nat → Int32) → (Nat → Int32) → (Nat → Int32) → (Nat → Int32) → (Nat → Int32) → Int32 → Int32 → (Nat → Int32) → (Nat → Int32) → (Nat → Int32) → (Nat → Int32) → (Nat → Int32) → (Nat → Int32) → Int32 → Int32 → Int32 → Int32 → Int32 → (Nat → Int32) → (Nat → Int32) → (Nat → Int32) → (Nat → Int32) → (Nat → Int32) → (Nat → Int32) → (Nat → Int32) → (Nat → Int32) → (Nat → Int32) → (Nat → Int32) → (Nat → Int32) → (Nat → Int64) → Prop} (hG : ∀ (X_solved : Int32) (X_levelCount : Int32) (P_rows : Int32) (P_entries : (Nat → Int32)) (P_order : (Nat → Int32)) (P_places : (Nat → Int32)) (P_rights : (Nat → Int32)) (P_weights : (Nat → Int32)) (L0_rows : Int32) (L0_entries : (Nat → Int32)) (L0_order : (Nat → Int32)) (L0_places : (Nat → Int32)) (L0_rights : (Nat → Int32)) (L0_weights : (Nat → Int32)) (L1_rows : Int32) (L1_entries : (Nat → Int32)) (L1_order : (Nat → Int32)) (L1_places : (Nat → Int32)) (L1_rights : (Nat → Int32)) (L1_weights : (Nat → Int32)) (L2_rows : Int32) (L2_entries : (Nat → Int32)) (L2_order : (Nat → Int32)) (L2_places : (Nat → Int32)) (L2_rights : (Nat → Int32)) (L2_weights : (Nat → Int32)) (L3_rows : Int32) (L3_entries : (Nat → Int32)) (L3_order : (Nat → Int32)) (L3_places : (Nat → Int32)) (L3_rights : (Nat → Int32)) (L3_weights : (Nat → Int32)) (L4_rows : Int32) (L4_entries : (Nat → Int32)) (L4_order : (Nat → Int32)) (L4_places : (Nat → Int32)) (L4_rights : (Nat → Int32)) (L4_weights : (Nat → Int32)) (L5_rows : Int32) (L5_entries : (Nat → Int32)) (L5_order : (Nat → Int32)) (L5_places : (Nat → Int32)) (L5_rights : (Nat → Int32)) (L5_weights : (Nat → Int32)) (E_joined : (Nat → Int32)) (E_later : (Nat → Int32)) (E_paths : (Nat → Int32)) (F_known : Int32) (F_rows : Int32) (F_pivots : (Nat → Int32)) (F_reciprocals : (Nat → Int32)) (F_below : (Nat → Int32)) (R_cells : (Nat → Int32)) (X_vector : (Nat → Int32)) (X_solution : (Nat → Int32)) (M_thrown : Int32) (M_n : Int32) (M_hasFactors : Int32) (M_hasSolution : Int32) (M_levels : Int32) (M_a : (Nat → Int32)) (M_rowAt : (Nat → Int32)) (M_places : (Nat → Int32)) (M_rights : (Nat → Int32)) (M_weights : (Nat → Int32)) (M_pivots : (Nat → Int32)) (M_lower : (Nat → Int32)) (M_solution : (Nat → Int32)) (M_work : (Nat → Int32)) (M_isJoined : (Nat → Int32)) (M_stored : (Nat → Int32)) (O_out : (Nat → Int64)), Rel X_solved X_levelCount P_rows P_entries P_order P_places P_rights P_weights L0_rows L0_entries L0_order L0_places L0_rights L0_weights L1_rows L1_entries L1_order L1_places L1_rights L1_weights L2_rows L2_entries L2_order L2_places L2_rights L2_weights L3_rows L3_entries L3_order L3_places L3_rights L3_weights L4_rows L4_entries L4_order L4_places L4_rights L4_weights L5_rows L5_entries L5_order L5_places L5_rights L5_weights E_joined E_later E_paths F_known F_rows F_pivots F_reciprocals F_below R_cells X_vector X_solution M_thrown M_n M_hasFactors M_hasSolution M_levels M_a M_rowAt M_places M_rights M_weights M_pivots M_lower M_solution M_work M_isJoined M_stored O_out → G (nI (4 * i) + 4) X_solved X_levelCount P_rows P_entries P_order P_places P_rights P_weights L0_rows L0_entries L0_order L0_places L0_rights L0_weights L1_rows L1_entries L1_order L1_places L1_rights L1_weights L2_rows L2_entries L2_order L2_places L2_rights L2_weights L3_rows L3_entries L3_order L3_places L3_rights L3_weights L4_rows L4_entries L4_order L4_places L4_rights L4_weights L5_rows L5_entries L5_order L5_places L5_rights L5_weights E_joined E_later E_paths F_known F_rows F_pivots F_reciprocals F_below R_cells X_vector X_solution M_thrown M_n M_hasFactors M_hasSolution M_levels M_a M_rowAt M_places M_rights M_weights M_pivots M_lower M_solution M_work M_isJoined M_stored O_out) : vc_law_23 L xs (nI (4 * i)) X_solved X_levelCount P_rows P_entries P_order P_places P_rights P_weights L0_rows L0_entries L0_order L0_places L0_rights L0_weights L1_rows L1_entries L1_order L1_places L1_rights L1_weights L2_rows L2_entries L2_order L2_places L2_rights L2_weights L3_rows L3_entries L3_order L3_places L3_rights L3_weights L4_rows L4_entries L4_order L4_places L4_rights L4_weights L5_rows L5_entries L5_order L5_places L5_rights L5_weights E_joined E_later E_paths F_known F_rows F_pivots F_reciprocals F_below R_cells X_vector X_solution M_thrown M_n M_hasFactors M_hasSolution M_levels M_a M_rowAt M_places M_rights M_weights M_pivots M_lower M_solution M_work M_isJoined M_stored O_out G := by
  obtain ⟨n, A, σ, τ, ri, we, fk, fs, ℓ, hW, hC, hM, hF, hS, hV⟩ := id hR
  have hn := hW.2.1
  have e1 := hC.1
  have e2 := hM.1
  subst e1
  subst e2
  refine sp_find1 hW hC (fun fb fp fr hI => ?_) (fun k hk h1 h2 fb fp fr => ?_)
  · refine sp_find5 hW hM (fun ml mp hI5 => ?_) (fun k hk h1 h2 ml mp => absurd h1 (hI.1 k hk).1)
    have hg2 : G (nI (4 * i) + 4) X_solved X_levelCount (nI n) P_entries P_order P_places P_rights P_weights L0_rows L0_entries L0_order L0_places L0_rights L0_weights L1_rows L1_entries L1_order L1_places L1_rights L1_weights L2_rows L2_entries L2_order L2_places L2_rights L2_weights L3_rows L3_entries L3_order L3_places L3_rights L3_weights L4_rows L4_entries L4_order L4_places L4_rights L4_weights L5_rows L5_entries L5_order L5_places L5_rights L5_weights E_joined E_later E_paths 1 (nI n) fp fr fb R_cells X_vector X_solution 0 (nI n) 1 M_hasSolution M_levels M_a M_rowAt M_places M_rights M_weights mp ml M_solution M_work M_isJoined M_stored O_out := hG _ _ _ _ _ _ _ _ _ _ _ _ _ _ _ _ _ _ _ _ _ _ _ _ _ _ _ _ _ _ _ _ _ _ _ _ _ _ _ _ _ _ _ _ _ _ _ _ _ _ _ _ _ _ _ _ _ _ _ _ _ _ _ _ _ _ _ _ _ _ _ _ ⟨n, A, σ, τ, ri, we, true, fs, ℓ, hW, hC, hM, FA_yes hW.2.2.1 hI hI5, hS, hV⟩
    exact tl_p rfl hg2
  · refine sp_find5 hW hM (fun ml mp hI5 => absurd h1 (hI5.1 k hk).1) (fun k' hk' h3 h4 ml mp => ?_)
    have hg2 : G (nI (4 * i) + 4) X_solved X_levelCount (nI n) P_entries P_order P_places P_rights P_weights L0_rows L0_entries L0_order L0_places L0_rights L0_weights L1_rows L1_entries L1_order L1_places L1_rights L1_weights L2_rows L2_entries L2_order L2_places L2_rights L2_weights L3_rows L3_entries L3_order L3_places L3_rights L3_weights L4_rows L4_entries L4_order L4_places L4_rights L4_weights L5_rows L5_entries L5_order L5_places L5_rights L5_weights E_joined E_later E_paths 0 (nI n) fp fr fb R_cells X_vector X_solution 0 (nI n) 0 M_hasSolution M_levels M_a M_rowAt M_places M_rights M_weights mp ml M_solution M_work M_isJoined M_stored O_out := hG _ _ _ _ _ _ _ _ _ _ _ _ _ _ _ _ _ _ _ _ _ _ _ _ _ _ _ _ _ _ _ _ _ _ _ _ _ _ _ _ _ _ _ _ _ _ _ _ _ _ _ _ _ _ _ _ _ _ _ _ _ _ _ _ _ _ _ _ _ _ _ _ ⟨n, A, σ, τ, ri, we, false, fs, ℓ, hW, hC, hM, FA_no, hS, hV⟩
    exact tl_p (congrArg nI (dp_one h1 h2 h3 h4)) hg2
