/-! loops of which the class's is a call, the reference's goes on -/
theorem rl2b {A1 A2 B1 B2 α β γ : Type} {S : α → β → Prop} {b : (A1 → A2 → Option γ) → A1 → A2 → Option γ} {c : (B1 → B2 → Option β) → B1 → B2 → Option β} {E : γ → Option α} (I : Nat → A1 → A2 → B1 → B2 → Prop) {N : Nat} (hN : N < 3000) {x1 : A1} {x2 : A2} {y1 : B1} {y2 : B2} (h0 : I 0 x1 x2 y1 y2)
    (hs : ∀ k, k < N → ∀ x1 x2 y1 y2, I k x1 x2 y1 y2 → ∀ r s, (∀ u1 u2 w1 w2, I (k + 1) u1 u2 w1 w2 → rl S ((r u1 u2).bind E) (s w1 w2)) → rl S ((b r x1 x2).bind E) (c s y1 y2))
    (he : ∀ x1 x2 y1 y2, I N x1 x2 y1 y2 → ∀ r s, rl S ((b r x1 x2).bind E) (c s y1 y2)) : rl S ((qp2 FU b x1 x2).bind E) (qp2 FU c y1 y2) := by
  have key : ∀ (d n m k : Nat), k + d = N → d < n → d < m → ∀ x1 x2 y1 y2, I k x1 x2 y1 y2 → rl S ((qp2 n b x1 x2).bind E) (qp2 m c y1 y2) := by
    intro d
    induction d with
    | zero => intro n m k h1 h2 h3 x1 x2 y1 y2 h; cases n with
      | zero => omega
      | succ n => cases m with
        | zero => omega
        | succ m => rw [show k = N by omega] at h; exact he x1 x2 y1 y2 h _ _
    | succ d ih => intro n m k h1 h2 h3 x1 x2 y1 y2 h; cases n with
      | zero => omega
      | succ n => cases m with
        | zero => omega
        | succ m => exact hs k (by omega) x1 x2 y1 y2 h _ _ (ih n m (k + 1) (by omega) (by omega) (by omega))
  exact key N 3000 3000 0 (by omega) hN hN x1 x2 y1 y2 h0
theorem rl3b {A1 A2 A3 B1 B2 B3 α β γ : Type} {S : α → β → Prop} {b : (A1 → A2 → A3 → Option γ) → A1 → A2 → A3 → Option γ} {c : (B1 → B2 → B3 → Option β) → B1 → B2 → B3 → Option β} {E : γ → Option α} (I : Nat → A1 → A2 → A3 → B1 → B2 → B3 → Prop) {N : Nat} (hN : N < 3000) {x1 : A1} {x2 : A2} {x3 : A3} {y1 : B1} {y2 : B2} {y3 : B3} (h0 : I 0 x1 x2 x3 y1 y2 y3)
    (hs : ∀ k, k < N → ∀ x1 x2 x3 y1 y2 y3, I k x1 x2 x3 y1 y2 y3 → ∀ r s, (∀ u1 u2 u3 w1 w2 w3, I (k + 1) u1 u2 u3 w1 w2 w3 → rl S ((r u1 u2 u3).bind E) (s w1 w2 w3)) → rl S ((b r x1 x2 x3).bind E) (c s y1 y2 y3))
    (he : ∀ x1 x2 x3 y1 y2 y3, I N x1 x2 x3 y1 y2 y3 → ∀ r s, rl S ((b r x1 x2 x3).bind E) (c s y1 y2 y3)) : rl S ((qp3 FU b x1 x2 x3).bind E) (qp3 FU c y1 y2 y3) := by
  have key : ∀ (d n m k : Nat), k + d = N → d < n → d < m → ∀ x1 x2 x3 y1 y2 y3, I k x1 x2 x3 y1 y2 y3 → rl S ((qp3 n b x1 x2 x3).bind E) (qp3 m c y1 y2 y3) := by
    intro d
    induction d with
    | zero => intro n m k h1 h2 h3 x1 x2 x3 y1 y2 y3 h; cases n with
      | zero => omega
      | succ n => cases m with
        | zero => omega
        | succ m => rw [show k = N by omega] at h; exact he x1 x2 x3 y1 y2 y3 h _ _
    | succ d ih => intro n m k h1 h2 h3 x1 x2 x3 y1 y2 y3 h; cases n with
      | zero => omega
      | succ n => cases m with
        | zero => omega
        | succ m => exact hs k (by omega) x1 x2 x3 y1 y2 y3 h _ _ (ih n m (k + 1) (by omega) (by omega) (by omega))
  exact key N 3000 3000 0 (by omega) hN hN x1 x2 x3 y1 y2 y3 h0
theorem rl32b {A1 A2 A3 B1 B2 α β γ : Type} {S : α → β → Prop} {b : (A1 → A2 → A3 → Option γ) → A1 → A2 → A3 → Option γ} {c : (B1 → B2 → Option β) → B1 → B2 → Option β} {E : γ → Option α} (I : Nat → A1 → A2 → A3 → B1 → B2 → Prop) {N : Nat} (hN : N < 3000) {x1 : A1} {x2 : A2} {x3 : A3} {y1 : B1} {y2 : B2} (h0 : I 0 x1 x2 x3 y1 y2)
    (hs : ∀ k, k < N → ∀ x1 x2 x3 y1 y2, I k x1 x2 x3 y1 y2 → ∀ r s, (∀ u1 u2 u3 w1 w2, I (k + 1) u1 u2 u3 w1 w2 → rl S ((r u1 u2 u3).bind E) (s w1 w2)) → rl S ((b r x1 x2 x3).bind E) (c s y1 y2))
    (he : ∀ x1 x2 x3 y1 y2, I N x1 x2 x3 y1 y2 → ∀ r s, rl S ((b r x1 x2 x3).bind E) (c s y1 y2)) : rl S ((qp3 FU b x1 x2 x3).bind E) (qp2 FU c y1 y2) := by
  have key : ∀ (d n m k : Nat), k + d = N → d < n → d < m → ∀ x1 x2 x3 y1 y2, I k x1 x2 x3 y1 y2 → rl S ((qp3 n b x1 x2 x3).bind E) (qp2 m c y1 y2) := by
    intro d
    induction d with
    | zero => intro n m k h1 h2 h3 x1 x2 x3 y1 y2 h; cases n with
      | zero => omega
      | succ n => cases m with
        | zero => omega
        | succ m => rw [show k = N by omega] at h; exact he x1 x2 x3 y1 y2 h _ _
    | succ d ih => intro n m k h1 h2 h3 x1 x2 x3 y1 y2 h; cases n with
      | zero => omega
      | succ n => cases m with
        | zero => omega
        | succ m => exact hs k (by omega) x1 x2 x3 y1 y2 h _ _ (ih n m (k + 1) (by omega) (by omega) (by omega))
  exact key N 3000 3000 0 (by omega) hN hN x1 x2 x3 y1 y2 h0
