/-- the rows of marks are wiped -/
theorem pm_unmark4 {σ : ck_S} : fX7_unmark_4 σ = some (ck_set_held σ (wz (ck_held σ) 0 25)) := by
  unfold fX7_unmark_4
  refine Eq.trans (congrArg (fun s => qp2 FU _ (nI 0) s) (show σ = ck_set_held σ (wz (ck_held σ) 0 0) by rw [wz_0]; rfl)) ?_
  refine qp2_for (fun k => nI k) (fun k => ck_set_held σ (wz (ck_held σ) 0 k)) (i := 0) (N := 25) (by omega) (by omega) (fun k h1 h2 rec => ?_) (fun rec => ?_)
  · show (if nI 25 ≤ nI k then _ else _) = _
    rw [if_neg (nI_ge h2 (by omega)), pm_hwr h2 (Or.inl rfl), pm_s1]
    show rec _ (ck_set_held σ (upd (wz (ck_held σ) 0 k) k 0)) = _
    rw [wz_s h1]
  · show (if nI 25 ≤ nI 25 then _ else _) = _
    rw [if_pos (nI_le (Nat.le_refl _) (by omega))]
/-- whole tables, of the class -/
def wb (σ : ck_S) : Nat → ck_S
  | 0 => cw (cw (cw (ck_set_cells σ (wz (ck_cells σ) 0 1355)) 0 2) 2 2) 4 1
  | n + 1 => cw (wb σ n) (1128 + n) 1
def wt (σ : ck_S) : ck_S := cw (cw (cw (wb σ 8) 1328 1) 1352 192) 1353 23
def vb (ρ : mk_S) : Nat → mk_S
  | 0 => mw (mw (mw (mk_set_held (mk_set_all ρ (wz (mk_all ρ) 0 1429)) (wz (mk_held ρ) 0 25)) 47 2) 49 2) 51 1
  | n + 1 => mw (vb ρ n) (1201 + n) 1
def vt (ρ : mk_S) : mk_S := mw (mw (mw (vb ρ 8) 1402 1) 1426 192) 1427 23
