/-! find -/
/-- the first place from i on, of d more, where c holds v; behind them, if none -/
def fi (c : Nat → Int32) (v : Int32) : Nat → Nat → Nat
  | 0, i => i
  | d + 1, i => if c i = v then i else fi c v d (i + 1)
theorem fi_le {c : Nat → Int32} {v : Int32} : ∀ d i, fi c v d i ≤ i + d := by
  intro d
  induction d with
  | zero => intro i; exact Nat.le_refl _
  | succ d ih =>
    intro i
    unfold fi
    by_cases h : c i = v
    · rw [if_pos h]; omega
    · rw [if_neg h]; have := ih (i + 1); omega
theorem fi_ge {c : Nat → Int32} {v : Int32} : ∀ d i, i ≤ fi c v d i := by
  intro d
  induction d with
  | zero => intro i; exact Nat.le_refl _
  | succ d ih =>
    intro i
    unfold fi
    by_cases h : c i = v
    · rw [if_pos h]; exact Nat.le_refl _
    · rw [if_neg h]; have := ih (i + 1); omega
/-- the names of a folder -/
def en (σ : ck_S) (g k : Nat) : Int32 := ck_cells σ (g * 47 + 23 + k * 3)
theorem pm_ep0 {g k : Nat} (hg : g < 24) (hk : k < 8) {σ : ck_S} : fX5_entryPart (nI (g + 1)) (nI k) 0 σ = some (en σ g k) := pm_entryPart (q := 0) hg hk (by omega)
theorem pm_ep1 {g k : Nat} (hg : g < 24) (hk : k < 8) {σ : ck_S} : fX5_entryPart (nI (g + 1)) (nI k) 1 σ = some (ck_cells σ (g * 47 + 23 + k * 3 + 1)) := pm_entryPart (q := 1) hg hk (by omega)
theorem pm_ep2 {g k : Nat} (hg : g < 24) (hk : k < 8) {σ : ck_S} : fX5_entryPart (nI (g + 1)) (nI k) 2 σ = some (ck_cells σ (g * 47 + 23 + k * 3 + 2)) := pm_entryPart (q := 2) hg hk (by omega)
theorem pm_place {g n : Nat} (hg : g < 24) (hn : n ≤ 8) {v : Int32} {σ : ck_S} : fX5_placeOfName (nI (g + 1)) (nI n) v σ = some (nI (fi (en σ g) v n 0)) := by
  unfold fX5_placeOfName
  have key : ∀ d i m, i + d = n → d < m → qp1 m (fun rec3 (x1 : Int32) =>
    if nI n ≤ x1 then (
      some (nI n)
      ) else (
      (fX5_entryPart (nI (g + 1)) x1 0 σ).bind fun v3 =>
      if v3 = v then (
        some x1
        ) else (
        rec3 (x1 + 1)
        )
      )
    ) (nI i) = some (nI (fi (en σ g) v d i)) := by
    intro d
    induction d with
    | zero =>
      intro i m h1 h2
      cases m with
      | zero => omega
      | succ m =>
        show (if nI n ≤ nI i then _ else _) = _
        rw [if_pos (nI_le (by omega) (by omega)), show n = i by omega]; rfl
    | succ d ih =>
      intro i m h1 h2
      cases m with
      | zero => omega
      | succ m =>
        show (if nI n ≤ nI i then _ else _) = _
        rw [if_neg (nI_ge (by omega) (by omega)), pm_ep0 hg (by omega), Option.bind_some]
        unfold fi
        by_cases h : en σ g i = v
        · rw [if_pos h, if_pos h]
        · rw [if_neg h, if_neg h, pm_s1]
          exact ih (i + 1) m (by omega) (by omega)
  exact key n 0 3000 (by omega) (by omega)
theorem pm_mAt {g k w : Nat} (hg : g < 24) (hk : k < 8) (hw : w < 3) {σ : ck_S} {ρ : mk_S} (hR : Rl σ ρ) : mk_rd_all ρ (nI (g * 47 + 70 + k * 3) + nI w) = some (ck_cells σ (g * 47 + 23 + k * 3 + w)) := by
  rw [nI_add, pm_mrd (by omega), ← Rl_r hR (show g * 47 + 23 + k * 3 + w < 1355 by omega), io1 (by omega), show g * 47 + 23 + k * 3 + w + 47 = g * 47 + 70 + k * 3 + w by omega]
theorem pm_mAt0 {g k : Nat} (hg : g < 24) (hk : k < 8) {σ : ck_S} {ρ : mk_S} (hR : Rl σ ρ) : mk_rd_all ρ (nI (g * 47 + 70 + k * 3)) = some (en σ g k) := by
  have h := pm_mAt (w := 0) hg hk (by omega) hR
  rw [nI_add] at h
  exact h
theorem pm_named {g : Nat} (hg : g < 24) {v : Int32} {σ : ck_S} {ρ : mk_S} (hR : Rl σ ρ) : fX8_entryNamed (nI (g + 1)) v ρ = some (if fi (en σ g) v 8 0 < 8 then ck_cells σ (g * 47 + 23 + fi (en σ g) v 8 0 * 3 + 1) else 0) := by
  unfold fX8_entryNamed
  have key : ∀ d i m, i + d = 8 → d < m → qp1 m (fun rec2 (x1 : Int32) =>
    if 8 ≤ x1 then (
      some 0
      ) else (
      (fX8_entryAt (nI (g + 1)) x1).bind fun v3 =>
      (mk_rd_all ρ v3).bind fun v4 =>
      if v4 = v then (
        (fX8_entryAt (nI (g + 1)) x1).bind fun v6 =>
        (mk_rd_all ρ (v6 + 1)).bind fun v7 =>
        some v7
        ) else (
        rec2 (x1 + 1)
        )
      )
    ) (nI i) = some (if fi (en σ g) v d i < 8 then ck_cells σ (g * 47 + 23 + fi (en σ g) v d i * 3 + 1) else 0) := by
    intro d
    induction d with
    | zero =>
      intro i m h1 h2
      cases m with
      | zero => omega
      | succ m =>
        show (if nI 8 ≤ nI i then _ else _) = _
        rw [if_pos (nI_le (by omega) (by omega)), show fi (en σ g) v 0 i = i from rfl, if_neg (by omega)]
    | succ d ih =>
      intro i m h1 h2
      cases m with
      | zero => omega
      | succ m =>
        show (if nI 8 ≤ nI i then _ else _) = _
        rw [if_neg (nI_ge (by omega) (by omega)), pm_entryAt, Option.bind_some, pm_mAt0 hg (by omega) hR, Option.bind_some]
        unfold fi
        by_cases h : en σ g i = v
        · rw [if_pos h, if_pos h, Option.bind_some, if_pos (by omega), show mk_rd_all ρ (nI (g * 47 + 70 + i * 3) + 1) = _ from pm_mAt (w := 1) hg (by omega) (by omega) hR]; rfl
        · rw [if_neg h, if_neg h, pm_s1]
          exact ih (i + 1) m (by omega) (by omega)
  exact key 8 0 3000 (by omega) (by omega)
theorem pm_kind {g : Nat} (hg : g < 24) {σ : ck_S} {ρ : mk_S} (hR : Rl σ ρ) : fX8_kindOf (nI (g + 1)) ρ = some (ck_cells σ (g * 47)) := by
  unfold fX8_kindOf
  rw [pm_mc, pm_mrd (by omega), ← Rl_r hR (show g * 47 < 1355 by omega), io1 (by omega)]; rfl
theorem pm_k0 {g : Nat} (hg : g < 24) {σ : ck_S} : fX5_number (nI (g + 1)) 0 σ = some (ck_cells σ (g * 47)) := pm_number (w := 0) hg (by omega)
theorem pm_fileNamed {g : Nat} (hg : g < 24) {v : Int32} {σ : ck_S} : fX7_fileNamed (nI (g + 1)) v σ = some (if ck_cells σ (g * 47) = 2 then (if fi (en σ g) v 8 0 < 8 then ck_cells σ (g * 47 + 23 + fi (en σ g) v 8 0 * 3 + 1) else 0) else 0) := by
  unfold fX7_fileNamed
  rw [pm_k0 hg, Option.bind_some]
  by_cases h : ck_cells σ (g * 47) = 2
  · rw [if_pos h, if_pos h, show fX5_placeOfName (nI (g + 1)) 8 v σ = _ from pm_place hg (n := 8) (by omega), Option.bind_some]
    have hle := fi_le (c := en σ g) (v := v) 8 0
    by_cases h2 : fi (en σ g) v 8 0 < 8
    · rw [if_neg (show ¬ (8 : Int32) ≤ nI _ from nI_ge (b := 8) h2 (by omega)), if_pos h2, pm_ep1 hg h2]; rfl
    · rw [if_pos (show (8 : Int32) ≤ nI _ from nI_le (a := 8) (by omega) (by omega)), if_neg h2]
  · rw [if_neg h, if_neg h]
theorem jn_app {α β : Type} {b : α} {t : α → β} : jn b t = t b := rfl
def bF (p0 : Int64) (σ : ck_S) (rec5 : Int32 → Int32 → Option Int32) (x1 x2 : Int32) : Option Int32 :=
    if 8 ≤ x2 then (
      some x1
      ) else (
      if ((((p0.toUInt64 >>> ((8 * x2).toInt64.toUInt64 &&& Int64.toUInt64 63)).toInt64).toInt32) &&& 255) = 0 then (
        some x1
        ) else (
        (fX7_fileNamed x1 ((((p0.toUInt64 >>> ((8 * x2).toInt64.toUInt64 &&& Int64.toUInt64 63)).toInt64).toInt32) &&& 255) σ).bind fun v5 =>
        (fX7_isFile v5).bind fun v6 =>
        if v6 = 0 then (
          some 0
          ) else (
          rec5 v5 (x2 + 1)
          )
        )
      )
theorem pm_findC (p0 : Int64) (σ : ck_S) : fX7_find p0 σ = qp2 FU (bF p0 σ) (nI 1) (nI 0) := rfl
def bG (p0 : Int64) (σ1 : mk_S) (rec10 : Int32 → Int32 → Option (Int32 × mk_S)) (x2 x3 : Int32) : Option (Int32 × mk_S) :=
    if 8 ≤ x3 then (
      some (x2, σ1)
      ) else (
      if (((p0 >>> ((8 * x3).toInt64 &&& 63)) &&& ((255 : Int64))).toInt32) = 0 then (
        some (x2, σ1)
        ) else (
        (fX8_kindOf x2 σ1).bind fun v6 =>
        jn (fun (y7 : Int32) =>
          (fX8_isIn y7 1 24).bind fun v8 =>
          if v8 = 0 then (
            some (0, σ1)
            ) else (
            rec10 y7 (x3 + 1)
            )
          ) (fun j58 =>
        if v6 = 2 then (
          (fX8_entryNamed x2 (((p0 >>> ((8 * x3).toInt64 &&& 63)) &&& ((255 : Int64))).toInt32) σ1).bind fun v11 =>
          j58 v11
          ) else (
          j58 0
          )
        ))
      )
theorem pm_findM (p0 : Int64) (ρ : mk_S) : fX8_find p0 ρ = qp2 FU (bG p0 (mk_set_code ρ 0)) (nI 1) (nI 0) := by
  unfold fX8_find
  rw [Option.bind_some]
  rfl
theorem q_find : lm_find Rl := by
  intro σ ρ hR p0
  rw [pm_findC, pm_findM]
  obtain ⟨ρ1, e1⟩ : ∃ x, x = mk_set_code ρ 0 := ⟨_, rfl⟩
  have hR1 : Rl σ ρ1 := by rw [e1]; exact hR
  rw [← e1]
  have key : ∀ d k g m, k + d = 8 → d < m → g < 24 → ∃ r, qp2 m (bF p0 σ) (nI (g + 1)) (nI k) = some r ∧ qp2 m (bG p0 ρ1) (nI (g + 1)) (nI k) = some (r, ρ1) := by
    intro d
    induction d with
    | zero =>
      intro k g m h1 h2 hg
      cases m with
      | zero => omega
      | succ m =>
        refine ⟨nI (g + 1), ?_, ?_⟩
        · show bF p0 σ _ _ _ = _
          unfold bF; rw [if_pos (show (8 : Int32) ≤ nI k from nI_le (a := 8) (by omega) (by omega))]
        · show bG p0 ρ1 _ _ _ = _
          unfold bG; rw [if_pos (show (8 : Int32) ≤ nI k from nI_le (a := 8) (by omega) (by omega))]
    | succ d ih =>
      intro k g m h1 h2 hg
      cases m with
      | zero => omega
      | succ m =>
        show ∃ r, bF p0 σ (qp2 m (bF p0 σ)) _ _ = _ ∧ bG p0 ρ1 (qp2 m (bG p0 ρ1)) _ _ = _
        unfold bF bG
        have h8 : ¬ (8 : Int32) ≤ nI k := nI_ge (b := 8) (by omega) (by omega)
        rw [if_neg h8, if_neg h8, ← nm_eq (p := p0) (k := k) (by omega)]
        generalize ((((p0.toUInt64 >>> ((8 * nI k).toInt64.toUInt64 &&& Int64.toUInt64 63)).toInt64).toInt32) &&& 255) = v
        by_cases hv : v = 0
        · rw [if_pos hv, if_pos hv]; exact ⟨_, rfl, rfl⟩
        · rw [if_neg hv, if_neg hv, pm_fileNamed hg, pm_kind hg hR1, Option.bind_some, Option.bind_some]
          have hj : ∀ y : Int32, ∃ r, ((fX7_isFile y).bind fun v6 => if v6 = 0 then some 0 else qp2 m (bF p0 σ) y (nI k + 1)) = some r ∧ ((fX8_isIn y 1 24).bind fun v8 => if v8 = 0 then some (0, ρ1) else qp2 m (bG p0 ρ1) y (nI k + 1)) = some (r, ρ1) := by
            intro y
            rcases ix_file y with h | ⟨g2, hg2, rfl⟩
            · rw [pm_isFile0 h, pm_isIn0 h, Option.bind_some, Option.bind_some, if_pos rfl, if_pos rfl]; exact ⟨_, rfl, rfl⟩
            · have h10 : ¬ (1 : Int32) = 0 := by decide
              rw [pm_isFile1 hg2, pm_isIn1 (pm_f1 hg2) (pm_f2 hg2), Option.bind_some, Option.bind_some, if_neg h10, if_neg h10, pm_s1]
              exact ih (k + 1) g2 m (by omega) (by omega) hg2
          by_cases hk : ck_cells σ (g * 47) = 2
          · rw [if_pos hk, pm_named hg hR1]
            obtain ⟨r, r1, r2⟩ := hj (if fi (en σ g) v 8 0 < 8 then ck_cells σ (g * 47 + 23 + fi (en σ g) v 8 0 * 3 + 1) else 0)
            refine ⟨r, r1, ?_⟩
            rw [jn_app]
            show (if ck_cells σ (g * 47) = 2 then _ else _) = _
            rw [if_pos hk, Option.bind_some]; exact r2
          · rw [if_neg hk]
            obtain ⟨r, r1, r2⟩ := hj 0
            refine ⟨r, r1, ?_⟩
            rw [jn_app]
            show (if ck_cells σ (g * 47) = 2 then _ else _) = _
            rw [if_neg hk]; exact r2
  obtain ⟨r, r1, r2⟩ := key 8 0 0 3000 (by omega) (by omega) (by omega)
  exact ⟨r, ρ1, r1, r2, hR1⟩
