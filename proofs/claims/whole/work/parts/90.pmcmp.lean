/-! check: the comparison behind each pass -/
/-- 0 where f and g are alike below n, 1 where not -/
def cn (f g : Nat → Int32) : Nat → Int32
  | 0 => 0
  | k + 1 => if cn f g k = 0 then (if f k = g k then 0 else 1) else 1
theorem cn_cs {f g : Nat → Int32} : ∀ n, (cn f g n = 0 ∧ ∀ j, j < n → f j = g j) ∨ (cn f g n = 1 ∧ ∃ j, j < n ∧ f j ≠ g j) := by
  intro n
  induction n with
  | zero => exact Or.inl ⟨rfl, fun j hj => absurd hj (by omega)⟩
  | succ n ih =>
    unfold cn
    rcases ih with ⟨h1, h2⟩ | ⟨h1, j, h2, h3⟩
    · rw [if_pos h1]
      by_cases h : f n = g n
      · rw [if_pos h]
        refine Or.inl ⟨rfl, fun j hj => ?_⟩
        rcases Nat.lt_or_ge j n with q | q
        · exact h2 j q
        · rw [show j = n by omega]; exact h
      · rw [if_neg h]; exact Or.inr ⟨rfl, n, by omega, h⟩
    · rw [if_neg (by rw [h1]; decide)]; exact Or.inr ⟨rfl, j, by omega, h3⟩
theorem cn_eq {f g f' g' : Nat → Int32} {n n' : Nat} (h : (∀ j, j < n → f j = g j) ↔ ∀ j, j < n' → f' j = g' j) : cn f g n = cn f' g' n' := by
  rcases cn_cs (f := f) (g := g) n with ⟨a, b⟩ | ⟨a, j, b, c⟩
  · rcases cn_cs (f := f') (g := g') n' with ⟨a', b'⟩ | ⟨a', j', b', c'⟩
    · rw [a, a']
    · exact absurd (h.mp b j' b') c'
  · rcases cn_cs (f := f') (g := g') n' with ⟨a', b'⟩ | ⟨a', j', b', c'⟩
    · exact absurd (h.mpr b' j b) c
    · rw [a, a']
theorem cn_mA {T U z : Nat → Int32} {f g : Nat → Int32} (hf : ∀ j, j < 1429 → f j = mA T z j) (hg : ∀ j, j < 1429 → g j = mA U z j) : cn f g 1429 = cn T U 1355 := by
  refine cn_eq ⟨fun h i hi => ?_, fun h j hj => ?_⟩
  · have := h (io i) (io_lt hi)
    rw [hf _ (io_lt hi), hg _ (io_lt hi), mA_at hi, mA_at hi] at this
    exact this
  · rw [hf j hj, hg j hj]
    exact congrFun (mA_eq h) j
/-- the class -/
def cm (σ : ck_S) : ck_S := ck_set_memory σ (va_cpy (ck_cells σ) (ck_memory σ) 0 0 1355)
theorem cm_at {σ : ck_S} {i : Nat} (h : i < 1355) : ck_memory (cm σ) i = ck_cells σ i := by
  show va_cpy (ck_cells σ) (ck_memory σ) 0 0 1355 i = _
  rw [pk_cpy_in (by omega) (by omega)]
  exact congrArg (ck_cells σ) (by omega)
theorem pm_remember {σ : ck_S} : fX5_remember σ = some (cm σ) := by
  unfold fX5_remember
  rw [Option.bind_some]; rfl
theorem pm_rm {σ : ck_S} {i : Nat} (h : i < 1355) : ck_rd_memory σ (nI i) = some (ck_memory σ i) := pm_rdN h (by decide)
theorem pm_differ {σ : ck_S} : fX5_differFromMemory σ = some (cn (ck_memory σ) (ck_cells σ) 1355) := by
  unfold fX5_differFromMemory
  have key : ∀ d i m, i + d = 1355 → d < m → cn (ck_memory σ) (ck_cells σ) i = 0 → qp1 m (fun rec2 (x1 : Int32) =>
    if 1355 ≤ x1 then (
      some 0
      ) else (
      (ck_rd_cells σ x1).bind fun v3 =>
      (ck_rd_memory σ x1).bind fun v4 =>
      if v3 = v4 then (
        rec2 (x1 + 1)
        ) else (
        some 1
        )
      )
    ) (nI i) = some (cn (ck_memory σ) (ck_cells σ) 1355) := by
    intro d
    induction d with
    | zero =>
      intro i m h1 h2 h3
      cases m with
      | zero => omega
      | succ m =>
        show (if nI 1355 ≤ nI i then _ else _) = _
        rw [if_pos (nI_le (by omega) (by omega)), ← h3, show i = 1355 by omega]
    | succ d ih =>
      intro i m h1 h2 h3
      cases m with
      | zero => omega
      | succ m =>
        show (if nI 1355 ≤ nI i then _ else _) = _
        rw [if_neg (nI_ge (by omega) (by omega)), pm_rd (by omega), Option.bind_some, pm_rm (by omega), Option.bind_some]
        by_cases h : ck_cells σ i = ck_memory σ i
        · rw [if_pos h, pm_s1]
          exact ih (i + 1) m (by omega) (by omega) (by unfold cn; rw [if_pos h3, if_pos h.symm])
        · rw [if_neg h]
          rcases cn_cs (f := ck_memory σ) (g := ck_cells σ) 1355 with ⟨a, b⟩ | ⟨a, -⟩
          · exact absurd (b i (by omega)).symm h
          · rw [a]
  exact key 1355 0 3000 (by omega) (by omega) rfl
theorem pm_weight {σ : ck_S} {w : Int32} : fX7_weightIfMended w σ = some (if cn (ck_memory σ) (ck_cells σ) 1355 = 0 then 0 else w, cm σ) := by
  unfold fX7_weightIfMended
  rw [pm_differ, Option.bind_some, pm_remember, Option.bind_some]
  by_cases h : cn (ck_memory σ) (ck_cells σ) 1355 = 0
  · simp only [jn, h, if_true]
  · simp only [jn, h, if_false]
