theorem wb_s (σ : ck_S) (k : Nat) : wb σ (k + 1) = cw (wb σ k) (1128 + k) 1 := rfl
theorem pm_cWhole {σ : ck_S} : fX5_makeWhole σ = some (wt σ) := by
  unfold fX5_makeWhole
  rw [show fX5_wipeCells 0 1355 σ = _ from pm_wipeCells (i := 0) (j := 1355) (by omega) (by omega), Option.bind_some, show fX5_putNumber 1 0 2 _ = _ from pm_putNumber (g := 0) (w := 0) (by omega) (by omega), Option.bind_some, show fX5_putNumber 1 2 2 _ = _ from pm_putNumber (g := 0) (w := 2) (by omega) (by omega), Option.bind_some, show fX5_putNumber 1 4 1 _ = _ from pm_putNumber (g := 0) (w := 4) (by omega) (by omega), Option.bind_some]
  refine qp2_for (fun k => nI (k + 1)) (fun k => wb σ k) (i := 0) (N := 8) (by omega) (by omega) (fun k h1 h2 rec => ?_) (fun rec => ?_)
  · show (if nI 8 < nI (k + 1) then _ else _) = _
    rw [if_neg (pm_lt (by omega) (by omega) (by omega)), pm_putBit0 (by omega), Option.bind_some, pm_s1]
    exact congrArg (rec _) (wb_s σ k).symm
  · show (if nI 8 < nI 9 then _ else _) = _
    rw [if_pos (nI_lt (by omega) (by omega))]
    rw [show fX5_putBit 1 1 1 (wb σ 8) = some (cw (wb σ 8) 1328 1) from pm_putBit1 (i := 0) (by omega), Option.bind_some]
    rw [show fX5_putTold 0 192 (cw (wb σ 8) 1328 1) = some (cw (cw (wb σ 8) 1328 1) 1352 192) from pm_putTold (w := 0) (by omega), Option.bind_some]
    rw [show fX5_putTold 1 23 (cw (cw (wb σ 8) 1328 1) 1352 192) = some (cw (cw (cw (wb σ 8) 1328 1) 1352 192) 1353 23) from pm_putTold (w := 1) (by omega), Option.bind_some]
    unfold wt; rfl
