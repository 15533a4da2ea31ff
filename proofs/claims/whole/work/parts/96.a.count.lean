/-! entries counted; who may wait -/
def Sx (T : Nat → Int32) : Prop := (∀ g, g < 24 → Ok1 T g) ∧ T 0 = 2 ∧ ∀ g, g < 24 → Ef T g
theorem Sx_nf {T : Nat → Int32} (h : Sx T) {g k : Nat} (hg : g < 24) (hk : k < 8) (c : T (g * 47) ≠ 2) : E0 T g k := by
  obtain ⟨-, -, o3, -⟩ := h.1 g hg
  refine ⟨?_, ?_, ?_⟩
  · rw [show g * 47 + 23 + k * 3 = g * 47 + (23 + k * 3) by omega]; exact o3 c _ (by omega) (by omega)
  · rw [show g * 47 + 23 + k * 3 + 1 = g * 47 + (23 + k * 3 + 1) by omega]; exact o3 c _ (by omega) (by omega)
  · rw [show g * 47 + 23 + k * 3 + 2 = g * 47 + (23 + k * 3 + 2) by omega]; exact o3 c _ (by omega) (by omega)
theorem Sx_cs {T : Nat → Int32} (h : Sx T) {g k : Nat} (hg : g < 24) (hk : k < 8) : Ek T g k ∨ E0 T g k := by
  obtain ⟨n, -, h2, h3⟩ := h.2.2 g hg
  rcases Nat.lt_or_ge k n with q | q
  · exact Or.inl (h2 k q)
  · exact Or.inr (h3 k q hk)
/-- of the first k entries of h, those that lead to v -/
def c1 (T : Nat → Int32) (v : Int32) (h : Nat) : Nat → Nat
  | 0 => 0
  | k + 1 => if T (h * 47 + 23 + k * 3 + 1) = v then c1 T v h k + 1 else c1 T v h k
def cA (T : Nat → Int32) (v : Int32) : Nat → Nat
  | 0 => 0
  | h + 1 => cA T v h + c1 T v h 8
theorem c1_le {T : Nat → Int32} {v : Int32} {h : Nat} : ∀ k, c1 T v h k ≤ k := by
  intro k
  induction k with
  | zero => exact Nat.le_refl _
  | succ k ih =>
    show (if T (h * 47 + 23 + k * 3 + 1) = v then c1 T v h k + 1 else c1 T v h k) ≤ _
    split <;> omega
theorem cA_le {T : Nat → Int32} {v : Int32} : ∀ h, cA T v h ≤ 8 * h := by
  intro h
  induction h with
  | zero => exact Nat.le_refl _
  | succ h ih =>
    have := c1_le (T := T) (v := v) (h := h) 8
    show cA T v h + c1 T v h 8 ≤ _
    omega
theorem c1_0 {T : Nat → Int32} {v : Int32} {h : Nat} : ∀ k, c1 T v h k = 0 ↔ ∀ j, j < k → T (h * 47 + 23 + j * 3 + 1) ≠ v := by
  intro k
  induction k with
  | zero => exact ⟨fun _ j hj => absurd hj (by omega), fun _ => rfl⟩
  | succ k ih =>
    show (if T (h * 47 + 23 + k * 3 + 1) = v then c1 T v h k + 1 else c1 T v h k) = 0 ↔ _
    by_cases c : T (h * 47 + 23 + k * 3 + 1) = v
    · rw [if_pos c]
      exact ⟨fun q => absurd q (by omega), fun q => absurd c (q k (by omega))⟩
    · rw [if_neg c, ih]
      refine ⟨fun q j hj => ?_, fun q j hj => q j (by omega)⟩
      rcases Nat.lt_or_ge j k with r | r
      · exact q j r
      · rw [show j = k by omega]; exact c
theorem cA_0 {T : Nat → Int32} {v : Int32} : ∀ h, cA T v h = 0 ↔ ∀ g, g < h → ∀ j, j < 8 → T (g * 47 + 23 + j * 3 + 1) ≠ v := by
  intro h
  induction h with
  | zero => exact ⟨fun _ j hj => absurd hj (by omega), fun _ => rfl⟩
  | succ h ih =>
    show cA T v h + c1 T v h 8 = 0 ↔ _
    rw [Nat.add_eq_zero_iff, ih, c1_0]
    refine ⟨fun q g hg => ?_, fun q => ⟨fun g hg => q g (by omega), q h (by omega)⟩⟩
    rcases Nat.lt_or_ge g h with r | r
    · exact q.1 g r
    · rw [show g = h by omega]; exact q.2
theorem c1_s {T : Nat → Int32} {v : Int32} {h k : Nat} : c1 T v h (k + 1) = if T (h * 47 + 23 + k * 3 + 1) = v then c1 T v h k + 1 else c1 T v h k := rfl
theorem pm_count {v : Int32} {σ : ck_S} : fX5_countEntriesFor v σ = some (nI (cA (ck_cells σ) v 24)) := by
  unfold fX5_countEntriesFor
  refine qp2_for (fun h => nI (cA (ck_cells σ) v h)) (fun h => nI (h + 1)) (i := 0) (N := 24) (by omega) (by omega) (fun h h1 hh rec => ?_) (fun rec => ?_)
  · show (if 24 < nI (h + 1) then _ else qp2 FU _ (nI (cA (ck_cells σ) v h + c1 (ck_cells σ) v h 0)) (nI 0)) = rec (nI (cA (ck_cells σ) v h + c1 (ck_cells σ) v h 8)) (nI (h + 1 + 1))
    rw [if_neg (pm_f2 hh)]
    refine qp2_for (fun k => nI (cA (ck_cells σ) v h + c1 (ck_cells σ) v h k)) (fun k => nI k) (i := 0) (N := 8) (by omega) (by omega) (fun k k1 kk rec2 => ?_) (fun rec2 => ?_)
    · show (if 8 ≤ nI k then _ else (fX5_entryPart (nI (h + 1)) (nI k) 1 σ).bind fun v7 => if v7 = v then rec2 (nI (cA (ck_cells σ) v h + c1 (ck_cells σ) v h k) + 1) (nI k + 1) else rec2 (nI (cA (ck_cells σ) v h + c1 (ck_cells σ) v h k)) (nI k + 1)) = rec2 (nI (cA (ck_cells σ) v h + c1 (ck_cells σ) v h (k + 1))) (nI (k + 1))
      rw [if_neg (uge 8 8 k), pm_ep1 hh kk, Option.bind_some, pm_s1, pm_s1, c1_s]
      by_cases c : ck_cells σ (h * 47 + 23 + k * 3 + 1) = v
      · rw [if_pos c, if_pos c]; rfl
      · rw [if_neg c, if_neg c]
    · show (if 8 ≤ nI 8 then rec _ (nI (h + 1) + 1) else _) = _
      rw [if_pos (ule 8 8 8), pm_s1]
  · show (if 24 < nI 25 then _ else _) = _
    rw [if_pos (ult 24 24 25)]
theorem pm_leading {z : Nat → Int32} {σ : ck_S} {ρ : mk_S} (hR : Rz z σ ρ) (hS : Sx (ck_cells σ)) {p : Nat} (hp : p < 24) : fX8_leading (nI (p + 1)) ρ = some (nI (cA (ck_cells σ) (nI (p + 1)) 24)) := by
  have p0 : ¬ nI (p + 1) = 0 := nI_ne0 (by omega) (by omega)
  unfold fX8_leading
  refine qp2_for (fun h => nI (cA (ck_cells σ) (nI (p + 1)) h)) (fun h => nI (h + 1)) (i := 0) (N := 24) (by omega) (by omega) (fun h h1 hh rec => ?_) (fun rec => ?_)
  · show (if 24 < nI (h + 1) then _ else qp2 FU _ (nI (cA (ck_cells σ) (nI (p + 1)) h + c1 (ck_cells σ) (nI (p + 1)) h 0)) (nI 0)) = rec (nI (cA (ck_cells σ) (nI (p + 1)) h + c1 (ck_cells σ) (nI (p + 1)) h 8)) (nI (h + 1 + 1))
    rw [if_neg (pm_f2 hh)]
    by_cases cf : ck_cells σ (h * 47) = 2
    · refine qp2_for (fun k => nI (cA (ck_cells σ) (nI (p + 1)) h + c1 (ck_cells σ) (nI (p + 1)) h k)) (fun k => nI k) (i := 0) (N := 8) (by omega) (by omega) (fun k k1 kk rec2 => ?_) (fun rec2 => ?_)
      · obtain ⟨r0, r1, -⟩ := rz_ent hR hh kk
        simp only [pm_entryAt, Option.bind_some, r0, r1, rz_kind hR hh, if_neg (uge 8 8 k), if_pos cf, jn]
        rw [pm_s1, c1_s]
        rcases Sx_cs hS hh kk with ⟨e0, x, x1, x2, e1, e2⟩ | ⟨e0, e1, -⟩
        · rw [if_neg (show ¬ en σ h k = 0 from e0)]
          by_cases c : ck_cells σ (h * 47 + 23 + k * 3 + 1) = nI (p + 1)
          · rw [if_pos c, if_pos c, pm_s1]; rfl
          · rw [if_neg c, if_neg c, Int32.add_zero]
        · rw [if_pos (show en σ h k = 0 from e0), if_neg (show ¬ ck_cells σ (h * 47 + 23 + k * 3 + 1) = nI (p + 1) from fun q => p0 (q.symm.trans e1)), Int32.add_zero]
      · simp only [if_pos (ule 8 8 8), pm_s1]
    · have e : c1 (ck_cells σ) (nI (p + 1)) h 8 = 0 := (c1_0 8).mpr (fun j hj q => p0 (q.symm.trans (Sx_nf hS hh hj cf).2.1))
      rw [e]
      refine qp2_for (fun _ => nI (cA (ck_cells σ) (nI (p + 1)) h + c1 (ck_cells σ) (nI (p + 1)) h 0)) (fun k => nI k) (i := 0) (N := 0) (by omega) (by omega) (fun k k1 kk => absurd kk (by omega)) (fun rec2 => ?_)
      simp only [if_neg (uge 8 8 0), rz_kind hR hh, Option.bind_some, if_neg cf, pm_s1]; rfl
  · show (if 24 < nI 25 then _ else _) = _
    rw [if_pos (ult 24 24 25)]
/-- a file that may wait -/
def mwt (T : Nat → Int32) (g : Nat) : Prop := T (g * 47) ≠ 0 ∧ T (g * 47) ≠ 2 ∧ T (g * 47 + 2) = 0 ∧ ∀ h, h < 24 → ∀ j, j < 8 → T (h * 47 + 23 + j * 3 + 1) ≠ nI (g + 1)
theorem cA_z {T : Nat → Int32} {v : Int32} : nI (cA T v 24) = 0 ↔ ∀ g, g < 24 → ∀ j, j < 8 → T (g * 47 + 23 + j * 3 + 1) ≠ v := by
  rw [← cA_0]
  have := cA_le (T := T) (v := v) 24
  exact ⟨fun q => (nI_eq (b := 0) (by omega) (by omega)).mp q, fun q => by rw [q]; rfl⟩
theorem mw_c {g : Nat} (hg : g < 24) {σ : ck_S} : (mwt (ck_cells σ) g ∧ fX6_mayWait (nI (g + 1)) σ = some 1) ∨ (¬ mwt (ck_cells σ) g ∧ fX6_mayWait (nI (g + 1)) σ = some 0) := by
  unfold fX6_mayWait mwt
  rw [pm_k0 hg, Option.bind_some, show fX5_number (nI (g + 1)) 2 σ = _ from pm_number (w := 2) hg (by omega), Option.bind_some, pm_count, Option.bind_some, ← cA_z]
  by_cases c1 : ck_cells σ (g * 47) = 0
  · rw [if_pos c1]; exact Or.inr ⟨fun q => q.1 c1, rfl⟩
  rw [if_neg c1]
  by_cases c2 : ck_cells σ (g * 47) = 2
  · rw [if_pos c2]; exact Or.inr ⟨fun q => q.2.1 c2, rfl⟩
  rw [if_neg c2]
  by_cases c3 : ck_cells σ (g * 47 + 2) = 0
  · rw [if_pos c3]
    by_cases c4 : nI (cA (ck_cells σ) (nI (g + 1)) 24) = 0
    · rw [if_pos c4]; exact Or.inl ⟨⟨c1, c2, c3, c4⟩, rfl⟩
    · rw [if_neg c4]; exact Or.inr ⟨fun q => c4 q.2.2.2, rfl⟩
  · rw [if_neg c3]; exact Or.inr ⟨fun q => c3 q.2.2.1, rfl⟩
/-- how many of the first n files are marked -/
def cnt (f : Nat → Int32) : Nat → Nat
  | 0 => 0
  | n + 1 => if f (n + 1) = 0 then cnt f n else cnt f n + 1
theorem cnt_s {f : Nat → Int32} {n : Nat} : cnt f (n + 1) = if f (n + 1) = 0 then cnt f n else cnt f n + 1 := rfl
theorem cnt_le {f : Nat → Int32} : ∀ n, cnt f n ≤ n := by
  intro n
  induction n with
  | zero => exact Nat.le_refl _
  | succ n ih => rw [cnt_s]; split <;> omega
theorem cnt_lt {f : Nat → Int32} {x : Nat} (h : f (x + 1) = 0) : ∀ n, x < n → cnt f n < n := by
  intro n
  induction n with
  | zero => intro q; omega
  | succ n ih =>
    intro q
    rw [cnt_s]
    have := cnt_le (f := f) n
    by_cases e : x = n
    · subst e; rw [if_pos h]; omega
    · have := ih (by omega)
      split <;> omega
theorem cnt_eq {f g : Nat → Int32} : ∀ n, (∀ x, x < n → f (x + 1) = g (x + 1)) → cnt f n = cnt g n := by
  intro n
  induction n with
  | zero => intro _; rfl
  | succ n ih =>
    intro q
    rw [cnt_s, cnt_s, q n (by omega), ih (fun x hx => q x (by omega))]
theorem cnt_up {f : Nat → Int32} {x : Nat} (h : f (x + 1) = 0) : ∀ n, x < n → cnt (upd f (x + 1) 1) n = cnt f n + 1 := by
  intro n
  induction n with
  | zero => intro q; omega
  | succ n ih =>
    intro q
    rw [cnt_s, cnt_s]
    by_cases e : x = n
    · subst e
      rw [pk_us, if_neg (by decide), if_pos h, cnt_eq x (fun y hy => pk_un (by omega))]
    · rw [pk_un (by omega), ih (by omega)]
      split <;> omega
theorem cnt_mono {f g : Nat → Int32} : ∀ n, (∀ x, x < n → f (x + 1) ≠ 0 → g (x + 1) ≠ 0) → cnt f n ≤ cnt g n := by
  intro n
  induction n with
  | zero => intro _; exact Nat.le_refl _
  | succ n ih =>
    intro q
    have := ih (fun x hx => q x (by omega))
    rw [cnt_s, cnt_s]
    by_cases e : f (n + 1) = 0
    · rw [if_pos e]; split <;> omega
    · rw [if_neg e, if_neg (q n (by omega) e)]; omega
theorem cnt_all {f g : Nat → Int32} : ∀ n, (∀ x, x < n → f (x + 1) ≠ 0 → g (x + 1) ≠ 0) → cnt g n ≤ cnt f n → ∀ x, x < n → g (x + 1) ≠ 0 → f (x + 1) ≠ 0 := by
  intro n
  induction n with
  | zero => intro _ _ x hx; omega
  | succ n ih =>
    intro q r x hx
    have m := cnt_mono n (fun x hx => q x (by omega))
    rw [cnt_s, cnt_s] at r
    by_cases e : f (n + 1) = 0
    · rw [if_pos e] at r
      by_cases e2 : g (n + 1) = 0
      · rw [if_pos e2] at r
        rcases Nat.lt_or_ge x n with c | c
        · exact ih (fun x hx => q x (by omega)) r x c
        · rw [show x = n by omega]; exact fun q => absurd e2 q
      · rw [if_neg e2] at r; omega
    · rw [if_neg e, if_neg (q n (by omega) e)] at r
      rcases Nat.lt_or_ge x n with c | c
      · exact ih (fun x hx => q x (by omega)) (by omega) x c
      · rw [show x = n by omega]; exact fun _ => e
theorem php : ∀ (n : Nat) (f : Nat → Nat), (∀ i, i < n + 1 → f i < n) → ∃ i j, i < j ∧ j < n + 1 ∧ f i = f j := by
  intro n
  induction n with
  | zero => intro f h; exact absurd (h 0 (by omega)) (by omega)
  | succ n ih =>
    intro f h
    by_cases c : ∃ i, i < n + 1 ∧ f i = f (n + 1)
    · obtain ⟨i, h1, h2⟩ := c
      exact ⟨i, n + 1, h1, by omega, h2⟩
    · have c2 : ∀ i, i < n + 1 → f i ≠ f (n + 1) := fun i hi q => c ⟨i, hi, q⟩
      have hv := h (n + 1) (by omega)
      obtain ⟨i, j, h1, h2, h3⟩ := ih (fun i => if f (n + 1) < f i then f i - 1 else f i) (fun i hi => by
        have a := h i (by omega)
        have b := c2 i hi
        show (if f (n + 1) < f i then f i - 1 else f i) < n
        split <;> omega)
      refine ⟨i, j, h1, by omega, ?_⟩
      have a := c2 i (by omega)
      have b := c2 j h2
      have h4 : (if f (n + 1) < f i then f i - 1 else f i) = (if f (n + 1) < f j then f j - 1 else f j) := h3
      by_cases q1 : f (n + 1) < f i
      · rw [if_pos q1] at h4
        by_cases q2 : f (n + 1) < f j
        · rw [if_pos q2] at h4; omega
        · rw [if_neg q2] at h4; omega
      · rw [if_neg q1] at h4
        by_cases q2 : f (n + 1) < f j
        · rw [if_pos q2] at h4; omega
        · rw [if_neg q2] at h4; omega
