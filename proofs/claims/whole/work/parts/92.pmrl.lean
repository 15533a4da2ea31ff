/-! the two sides side by side -/
def rl {α β : Type} (S : α → β → Prop) (x : Option α) (y : Option β) : Prop := ∃ a b, x = some a ∧ y = some b ∧ S a b
theorem rl_ret {α β : Type} {S : α → β → Prop} {a : α} {b : β} (h : S a b) : rl S (some a) (some b) := ⟨a, b, rfl, rfl, h⟩
theorem rl_bd {α β γ δ : Type} {P : α → β → Prop} {S : γ → δ → Prop} {x : Option α} {y : Option β} {f : α → Option γ} {g : β → Option δ} (h : rl P x y) (k : ∀ a b, P a b → rl S (f a) (g b)) : rl S (x.bind f) (y.bind g) := by
  obtain ⟨a, b, rfl, rfl, hp⟩ := h
  exact k a b hp
def ok {α : Type} (S : α → Prop) (x : Option α) : Prop := ∃ a, x = some a ∧ S a
theorem ok_ret {α : Type} {S : α → Prop} {a : α} (h : S a) : ok S (some a) := ⟨a, rfl, h⟩
theorem ok_bd {α γ : Type} {P : α → Prop} {S : γ → Prop} {x : Option α} {f : α → Option γ} (h : ok P x) (k : ∀ a, P a → ok S (f a)) : ok S (x.bind f) := by
  obtain ⟨a, rfl, hp⟩ := h
  exact k a hp
theorem ok_rl {α β : Type} {P : α → Prop} {Q : β → Prop} {S : α → β → Prop} {x : Option α} {y : Option β} (h1 : ok P x) (h2 : ok Q y) (h : ∀ a b, P a → Q b → S a b) : rl S x y := by
  obtain ⟨a, rfl, ha⟩ := h1
  obtain ⟨b, rfl, hb⟩ := h2
  exact ⟨a, b, rfl, rfl, h a b ha hb⟩
theorem rl_mono {α β : Type} {S S2 : α → β → Prop} {x : Option α} {y : Option β} (h : rl S x y) (k : ∀ a b, S a b → S2 a b) : rl S2 x y := by
  obtain ⟨a, b, rfl, rfl, hp⟩ := h
  exact ⟨a, b, rfl, rfl, k a b hp⟩
theorem ok_mono {α : Type} {S S2 : α → Prop} {x : Option α} (h : ok S x) (k : ∀ a, S a → S2 a) : ok S2 x := by
  obtain ⟨a, rfl, hp⟩ := h
  exact ⟨a, rfl, k a hp⟩
/-- a call on one side alone -/
theorem rl_c {α γ δ : Type} {P : α → Prop} {S : γ → δ → Prop} {x : Option α} {f : α → Option γ} {y : Option δ} (h : ok P x) (k : ∀ a, P a → rl S (f a) y) : rl S (x.bind f) y := by
  obtain ⟨a, rfl, hp⟩ := h
  exact k a hp
theorem rl_m {α γ δ : Type} {P : α → Prop} {S : γ → δ → Prop} {x : Option α} {f : α → Option δ} {y : Option γ} (h : ok P x) (k : ∀ a, P a → rl S y (f a)) : rl S y (x.bind f) := by
  obtain ⟨a, rfl, hp⟩ := h
  exact k a hp
theorem rl2 {A1 A2 B1 B2 α β : Type} {S : α → β → Prop} {b : (A1 → A2 → Option α) → A1 → A2 → Option α} {c : (B1 → B2 → Option β) → B1 → B2 → Option β} (I : Nat → A1 → A2 → B1 → B2 → Prop) {N : Nat} (hN : N < 3000) {x1 : A1} {x2 : A2} {y1 : B1} {y2 : B2} (h0 : I 0 x1 x2 y1 y2)
    (hs : ∀ k, k < N → ∀ x1 x2 y1 y2, I k x1 x2 y1 y2 → ∀ r s, (∀ u1 u2 w1 w2, I (k + 1) u1 u2 w1 w2 → rl S (r u1 u2) (s w1 w2)) → rl S (b r x1 x2) (c s y1 y2))
    (he : ∀ x1 x2 y1 y2, I N x1 x2 y1 y2 → ∀ r s, rl S (b r x1 x2) (c s y1 y2)) : rl S (qp2 FU b x1 x2) (qp2 FU c y1 y2) := by
  have key : ∀ (d n m k : Nat), k + d = N → d < n → d < m → ∀ x1 x2 y1 y2, I k x1 x2 y1 y2 → rl S (qp2 n b x1 x2) (qp2 m c y1 y2) := by
    intro d
    induction d with
    | zero => intro n m k h1 h2 h3 x1 x2 y1 y2 h; cases n with
      | zero => omega
      | succ n => cases m with
        | zero => omega
        | succ m => rw [show k = N by omega] at h; exact he x1 x2 y1 y2 h _ _
    | succ d ih => intro n m k h1 h2 h3 x1 x2 y1 y2 h; cases n with
      | zero => omega
      | succ n => cases m with
        | zero => omega
        | succ m => exact hs k (by omega) x1 x2 y1 y2 h _ _ (ih n m (k + 1) (by omega) (by omega) (by omega))
  exact key N 3000 3000 0 (by omega) hN hN x1 x2 y1 y2 h0
theorem rl3 {A1 A2 A3 B1 B2 B3 α β : Type} {S : α → β → Prop} {b : (A1 → A2 → A3 → Option α) → A1 → A2 → A3 → Option α} {c : (B1 → B2 → B3 → Option β) → B1 → B2 → B3 → Option β} (I : Nat → A1 → A2 → A3 → B1 → B2 → B3 → Prop) {N : Nat} (hN : N < 3000) {x1 : A1} {x2 : A2} {x3 : A3} {y1 : B1} {y2 : B2} {y3 : B3} (h0 : I 0 x1 x2 x3 y1 y2 y3)
    (hs : ∀ k, k < N → ∀ x1 x2 x3 y1 y2 y3, I k x1 x2 x3 y1 y2 y3 → ∀ r s, (∀ u1 u2 u3 w1 w2 w3, I (k + 1) u1 u2 u3 w1 w2 w3 → rl S (r u1 u2 u3) (s w1 w2 w3)) → rl S (b r x1 x2 x3) (c s y1 y2 y3))
    (he : ∀ x1 x2 x3 y1 y2 y3, I N x1 x2 x3 y1 y2 y3 → ∀ r s, rl S (b r x1 x2 x3) (c s y1 y2 y3)) : rl S (qp3 FU b x1 x2 x3) (qp3 FU c y1 y2 y3) := by
  have key : ∀ (d n m k : Nat), k + d = N → d < n → d < m → ∀ x1 x2 x3 y1 y2 y3, I k x1 x2 x3 y1 y2 y3 → rl S (qp3 n b x1 x2 x3) (qp3 m c y1 y2 y3) := by
    intro d
    induction d with
    | zero => intro n m k h1 h2 h3 x1 x2 x3 y1 y2 y3 h; cases n with
      | zero => omega
      | succ n => cases m with
        | zero => omega
        | succ m => rw [show k = N by omega] at h; exact he x1 x2 x3 y1 y2 y3 h _ _
    | succ d ih => intro n m k h1 h2 h3 x1 x2 x3 y1 y2 y3 h; cases n with
      | zero => omega
      | succ n => cases m with
        | zero => omega
        | succ m => exact hs k (by omega) x1 x2 x3 y1 y2 y3 h _ _ (ih n m (k + 1) (by omega) (by omega) (by omega))
  exact key N 3000 3000 0 (by omega) hN hN x1 x2 x3 y1 y2 y3 h0
theorem rl4 {A1 A2 A3 A4 B1 B2 B3 B4 α β : Type} {S : α → β → Prop} {b : (A1 → A2 → A3 → A4 → Option α) → A1 → A2 → A3 → A4 → Option α} {c : (B1 → B2 → B3 → B4 → Option β) → B1 → B2 → B3 → B4 → Option β} (I : Nat → A1 → A2 → A3 → A4 → B1 → B2 → B3 → B4 → Prop) {N : Nat} (hN : N < 3000) {x1 : A1} {x2 : A2} {x3 : A3} {x4 : A4} {y1 : B1} {y2 : B2} {y3 : B3} {y4 : B4} (h0 : I 0 x1 x2 x3 x4 y1 y2 y3 y4)
    (hs : ∀ k, k < N → ∀ x1 x2 x3 x4 y1 y2 y3 y4, I k x1 x2 x3 x4 y1 y2 y3 y4 → ∀ r s, (∀ u1 u2 u3 u4 w1 w2 w3 w4, I (k + 1) u1 u2 u3 u4 w1 w2 w3 w4 → rl S (r u1 u2 u3 u4) (s w1 w2 w3 w4)) → rl S (b r x1 x2 x3 x4) (c s y1 y2 y3 y4))
    (he : ∀ x1 x2 x3 x4 y1 y2 y3 y4, I N x1 x2 x3 x4 y1 y2 y3 y4 → ∀ r s, rl S (b r x1 x2 x3 x4) (c s y1 y2 y3 y4)) : rl S (qp4 FU b x1 x2 x3 x4) (qp4 FU c y1 y2 y3 y4) := by
  have key : ∀ (d n m k : Nat), k + d = N → d < n → d < m → ∀ x1 x2 x3 x4 y1 y2 y3 y4, I k x1 x2 x3 x4 y1 y2 y3 y4 → rl S (qp4 n b x1 x2 x3 x4) (qp4 m c y1 y2 y3 y4) := by
    intro d
    induction d with
    | zero => intro n m k h1 h2 h3 x1 x2 x3 x4 y1 y2 y3 y4 h; cases n with
      | zero => omega
      | succ n => cases m with
        | zero => omega
        | succ m => rw [show k = N by omega] at h; exact he x1 x2 x3 x4 y1 y2 y3 y4 h _ _
    | succ d ih => intro n m k h1 h2 h3 x1 x2 x3 x4 y1 y2 y3 y4 h; cases n with
      | zero => omega
      | succ n => cases m with
        | zero => omega
        | succ m => exact hs k (by omega) x1 x2 x3 x4 y1 y2 y3 y4 h _ _ (ih n m (k + 1) (by omega) (by omega) (by omega))
  exact key N 3000 3000 0 (by omega) hN hN x1 x2 x3 x4 y1 y2 y3 y4 h0
/-- a loop on one side: I k, with at most N - k turns to go -/
theorem ok1 {A1 α : Type} {S : α → Prop} {b : (A1 → Option α) → A1 → Option α} (I : Nat → A1 → Prop) {N : Nat} (hN : N < 3000) {x1 : A1} (h0 : I 0 x1)
    (hs : ∀ k, k < N → ∀ x1, I k x1 → ∀ r, (∀ u1, I (k + 1) u1 → ok S (r u1)) → ok S (b r x1))
    (he : ∀ x1, I N x1 → ∀ r, ok S (b r x1)) : ok S (qp1 FU b x1) := by
  have key : ∀ (d n k : Nat), k + d = N → d < n → ∀ x1, I k x1 → ok S (qp1 n b x1) := by
    intro d
    induction d with
    | zero => intro n k h1 h2 x1 h; cases n with
      | zero => omega
      | succ n => rw [show k = N by omega] at h; exact he x1 h _
    | succ d ih => intro n k h1 h2 x1 h; cases n with
      | zero => omega
      | succ n => exact hs k (by omega) x1 h _ (ih n (k + 1) (by omega) (by omega))
  exact key N 3000 0 (by omega) hN x1 h0
/-- a loop on one side: I k, with at most N - k turns to go -/
theorem ok2 {A1 A2 α : Type} {S : α → Prop} {b : (A1 → A2 → Option α) → A1 → A2 → Option α} (I : Nat → A1 → A2 → Prop) {N : Nat} (hN : N < 3000) {x1 : A1} {x2 : A2} (h0 : I 0 x1 x2)
    (hs : ∀ k, k < N → ∀ x1 x2, I k x1 x2 → ∀ r, (∀ u1 u2, I (k + 1) u1 u2 → ok S (r u1 u2)) → ok S (b r x1 x2))
    (he : ∀ x1 x2, I N x1 x2 → ∀ r, ok S (b r x1 x2)) : ok S (qp2 FU b x1 x2) := by
  have key : ∀ (d n k : Nat), k + d = N → d < n → ∀ x1 x2, I k x1 x2 → ok S (qp2 n b x1 x2) := by
    intro d
    induction d with
    | zero => intro n k h1 h2 x1 x2 h; cases n with
      | zero => omega
      | succ n => rw [show k = N by omega] at h; exact he x1 x2 h _
    | succ d ih => intro n k h1 h2 x1 x2 h; cases n with
      | zero => omega
      | succ n => exact hs k (by omega) x1 x2 h _ (ih n (k + 1) (by omega) (by omega))
  exact key N 3000 0 (by omega) hN x1 x2 h0
/-- a loop on one side: I k, with at most N - k turns to go -/
theorem ok3 {A1 A2 A3 α : Type} {S : α → Prop} {b : (A1 → A2 → A3 → Option α) → A1 → A2 → A3 → Option α} (I : Nat → A1 → A2 → A3 → Prop) {N : Nat} (hN : N < 3000) {x1 : A1} {x2 : A2} {x3 : A3} (h0 : I 0 x1 x2 x3)
    (hs : ∀ k, k < N → ∀ x1 x2 x3, I k x1 x2 x3 → ∀ r, (∀ u1 u2 u3, I (k + 1) u1 u2 u3 → ok S (r u1 u2 u3)) → ok S (b r x1 x2 x3))
    (he : ∀ x1 x2 x3, I N x1 x2 x3 → ∀ r, ok S (b r x1 x2 x3)) : ok S (qp3 FU b x1 x2 x3) := by
  have key : ∀ (d n k : Nat), k + d = N → d < n → ∀ x1 x2 x3, I k x1 x2 x3 → ok S (qp3 n b x1 x2 x3) := by
    intro d
    induction d with
    | zero => intro n k h1 h2 x1 x2 x3 h; cases n with
      | zero => omega
      | succ n => rw [show k = N by omega] at h; exact he x1 x2 x3 h _
    | succ d ih => intro n k h1 h2 x1 x2 x3 h; cases n with
      | zero => omega
      | succ n => exact hs k (by omega) x1 x2 x3 h _ (ih n (k + 1) (by omega) (by omega))
  exact key N 3000 0 (by omega) hN x1 x2 x3 h0
theorem Rz_r {z : Nat → Int32} {σ : ck_S} {ρ : mk_S} {i : Nat} (h : Rz z σ ρ) (hi : i < 1355) : mk_all ρ (io i) = ck_cells σ i := by
  rw [h.1]; exact mA_at hi
theorem Rz_w {z : Nat → Int32} {σ : ck_S} {ρ : mk_S} {i : Nat} {v : Int32} (h : Rz z σ ρ) (hi : i < 1355) (hv : 1128 ≤ i → i < 1352 → v = 0 ∨ v = 1) : Rz z (cw σ i v) (mw ρ (io i) v) := by
  obtain ⟨hz, h2, h3, h4⟩ := h
  refine ⟨?_, h2, h3, fun k k1 k2 => ?_⟩
  · show upd (mk_all ρ) (io i) v = mA (upd (ck_cells σ) i v) z
    rw [hz]; exact mA_upd hi
  · show upd (ck_cells σ) i v k = 0 ∨ upd (ck_cells σ) i v k = 1
    by_cases hk : k = i
    · subst hk; rw [pk_us]; exact hv k1 k2
    · rw [pk_un hk]; exact h4 k k1 k2
theorem Rz_w1 {z : Nat → Int32} {σ : ck_S} {ρ : mk_S} {i : Nat} {v : Int32} (h : Rz z σ ρ) (hi : i < 1128) : Rz z (cw σ i v) (mw ρ (i + 47) v) := by
  have h1 := Rz_w (v := v) h (i := i) (by omega) (by omega)
  rw [io1 hi] at h1
  exact h1
theorem Rz_w3 {z : Nat → Int32} {σ : ck_S} {ρ : mk_S} {i : Nat} {x y w : Int32} (h : Rz z σ ρ) (hi : i + 2 < 1128) : Rz z (cw3 σ i x y w) (mw3 ρ (i + 47) x y w) := by
  have h3 := Rz_w1 (v := w) (Rz_w1 (v := y) (Rz_w1 (v := x) h (i := i) (by omega)) (i := i + 1) (by omega)) (i := i + 2) (by omega)
  rw [show i + 1 + 47 = i + 47 + 1 by omega, show i + 2 + 47 = i + 47 + 2 by omega] at h3
  exact h3
def cz (σ : ck_S) (i j : Nat) : ck_S := ck_set_cells σ (wz (ck_cells σ) i j)
def mz (ρ : mk_S) (i j : Nat) : mk_S := mk_set_all ρ (wz (mk_all ρ) i j)
theorem Rz_z {z : Nat → Int32} {σ : ck_S} {ρ : mk_S} {i j : Nat} (h : Rz z σ ρ) (hj : j ≤ 1128) : Rz z (cz σ i j) (mz ρ (i + 47) (j + 47)) := by
  obtain ⟨hz, h2, h3, h4⟩ := h
  refine ⟨?_, h2, h3, fun k k1 k2 => ?_⟩
  · show wz (mk_all ρ) (i + 47) (j + 47) = mA (wz (ck_cells σ) i j) z
    rw [hz]; exact mA_wz hj
  · show wz (ck_cells σ) i j k = 0 ∨ wz (ck_cells σ) i j k = 1
    rw [wz_out (by omega)]; exact h4 k k1 k2
theorem rz_rd {z : Nat → Int32} {σ : ck_S} {ρ : mk_S} {j : Nat} (h : Rz z σ ρ) (hj : j < 1128) : mk_rd_all ρ (nI (j + 47)) = some (ck_cells σ j) := by
  rw [pm_mrd (by omega), ← Rz_r h (show j < 1355 by omega), io1 hj]
theorem rz_rdE {z : Nat → Int32} {σ : ck_S} {ρ : mk_S} {i j : Nat} (h : Rz z σ ρ) (hj : j < 1128) (e : i = j + 47) : mk_rd_all ρ (nI i) = some (ck_cells σ j) := by
  rw [e]; exact rz_rd h hj
theorem rz_kind {z : Nat → Int32} {σ : ck_S} {ρ : mk_S} {g : Nat} (h : Rz z σ ρ) (hg : g < 24) : fX8_kindOf (nI (g + 1)) ρ = some (ck_cells σ (g * 47)) := pm_kind hg (Rz_l h)
theorem pm_s2 {k : Nat} : nI k + 2 = nI (k + 2) := by rw [show (2 : Int32) = nI 2 from rfl, nI_add]
theorem pm_n1 : (1 : Int32) = nI (0 + 1) := rfl
theorem pm_n0 : (0 : Int32) = nI 0 := rfl
theorem nI_lt0 {k : Nat} {x : Int32} {n : Nat} (e : x = nI n) (h : n < k) (hk : k < 2 ^ 31) : x < nI k := by rw [e]; exact nI_lt h hk
theorem ps_of {fc : ck_S → Option ck_S} {fm : mk_S → Option mk_S} {I J : ck_S → mk_S → Prop} (h : ∀ z σ ρ M B, Rz z σ ρ → ck_memory σ = M → mk_before ρ = B → I σ ρ → rl (fun σ1 ρ1 => Rz z σ1 ρ1 ∧ ck_memory σ1 = M ∧ mk_before ρ1 = B ∧ J σ1 ρ1) (fc σ) (fm ρ)) : ps_ok fc fm I J := by
  intro z σ ρ hR hI
  obtain ⟨σ1, ρ1, h1, h2, h3, h4, h5, h6⟩ := h z σ ρ _ _ hR rfl rfl hI
  exact ⟨σ1, ρ1, h1, h2, h3, h6, h4, h5⟩
theorem ps_mono {fc : ck_S → Option ck_S} {fm : mk_S → Option mk_S} {I I2 J : ck_S → mk_S → Prop} (h : ps_ok fc fm I J) (k : ∀ σ ρ, I2 σ ρ → I σ ρ) : ps_ok fc fm I2 J := fun z σ ρ hR hI => h z σ ρ hR (k σ ρ hI)
