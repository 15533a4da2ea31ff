/-! the first pass: records and runs -/
theorem cr_inRuns {σ : ck_S} {f : Nat} (h : f < 201) : ck_rd_inRuns σ (nI f) = some (ck_inRuns σ f) := pm_rdN h (by decide)
theorem cr_w_inRuns {σ : ck_S} {f : Nat} {v : Int32} (h : f < 201) (hv : v = 0 ∨ v = 1) : ck_wr_inRuns σ (nI f) v = some (ck_set_inRuns σ (upd (ck_inRuns σ) f v)) := by
  show (ik_wr (ck_inRuns σ) 201 (nI f) (vp_nar .boolean v)).map (ck_set_inRuns σ) = _
  rw [pm_wrN h (by decide), pm_nar hv]; rfl
theorem pm_unmark6 {σ : ck_S} : fX7_unmark_6 σ = some (ck_set_inRuns σ (wz (ck_inRuns σ) 0 201)) := by
  unfold fX7_unmark_6
  refine Eq.trans (congrArg (fun s => qp2 FU _ (nI 0) s) (show σ = ck_set_inRuns σ (wz (ck_inRuns σ) 0 0) by rw [wz_0]; rfl)) ?_
  refine qp2_for (fun k => nI k) (fun k => ck_set_inRuns σ (wz (ck_inRuns σ) 0 k)) (i := 0) (N := 201) (by omega) (by omega) (fun k h1 h2 rec => ?_) (fun rec => ?_)
  · show (if nI 201 ≤ nI k then _ else _) = _
    rw [if_neg (nI_ge h2 (by omega)), cr_w_inRuns h2 (Or.inl rfl), pm_s1]
    show rec _ (ck_set_inRuns σ (upd (wz (ck_inRuns σ) 0 k) k 0)) = _
    rw [wz_s h1]
  · show (if nI 201 ≤ nI 201 then _ else _) = _
    rw [if_pos (nI_le (Nat.le_refl _) (by omega))]
theorem cr_hasEntry {σ : ck_S} {f : Nat} (h : f < 25) : ck_rd_hasEntry σ (nI f) = some (ck_hasEntry σ f) := pm_rdN h (by decide)
theorem cr_w_hasEntry {σ : ck_S} {f : Nat} {v : Int32} (h : f < 25) (hv : v = 0 ∨ v = 1) : ck_wr_hasEntry σ (nI f) v = some (ck_set_hasEntry σ (upd (ck_hasEntry σ) f v)) := by
  show (ik_wr (ck_hasEntry σ) 25 (nI f) (vp_nar .boolean v)).map (ck_set_hasEntry σ) = _
  rw [pm_wrN h (by decide), pm_nar hv]; rfl
theorem pm_unmark8 {σ : ck_S} : fX7_unmark_8 σ = some (ck_set_hasEntry σ (wz (ck_hasEntry σ) 0 25)) := by
  unfold fX7_unmark_8
  refine Eq.trans (congrArg (fun s => qp2 FU _ (nI 0) s) (show σ = ck_set_hasEntry σ (wz (ck_hasEntry σ) 0 0) by rw [wz_0]; rfl)) ?_
  refine qp2_for (fun k => nI k) (fun k => ck_set_hasEntry σ (wz (ck_hasEntry σ) 0 k)) (i := 0) (N := 25) (by omega) (by omega) (fun k h1 h2 rec => ?_) (fun rec => ?_)
  · show (if nI 25 ≤ nI k then _ else _) = _
    rw [if_neg (nI_ge h2 (by omega)), cr_w_hasEntry h2 (Or.inl rfl), pm_s1]
    show rec _ (ck_set_hasEntry σ (upd (wz (ck_hasEntry σ) 0 k) k 0)) = _
    rw [wz_s h1]
  · show (if nI 25 ≤ nI 25 then _ else _) = _
    rw [if_pos (nI_le (Nat.le_refl _) (by omega))]
theorem cr_reached {σ : ck_S} {f : Nat} (h : f < 25) : ck_rd_reached σ (nI f) = some (ck_reached σ f) := pm_rdN h (by decide)
theorem cr_w_reached {σ : ck_S} {f : Nat} {v : Int32} (h : f < 25) (hv : v = 0 ∨ v = 1) : ck_wr_reached σ (nI f) v = some (ck_set_reached σ (upd (ck_reached σ) f v)) := by
  show (ik_wr (ck_reached σ) 25 (nI f) (vp_nar .boolean v)).map (ck_set_reached σ) = _
  rw [pm_wrN h (by decide), pm_nar hv]; rfl
theorem pm_unmark10 {σ : ck_S} : fX7_unmark_10 σ = some (ck_set_reached σ (wz (ck_reached σ) 0 25)) := by
  unfold fX7_unmark_10
  refine Eq.trans (congrArg (fun s => qp2 FU _ (nI 0) s) (show σ = ck_set_reached σ (wz (ck_reached σ) 0 0) by rw [wz_0]; rfl)) ?_
  refine qp2_for (fun k => nI k) (fun k => ck_set_reached σ (wz (ck_reached σ) 0 k)) (i := 0) (N := 25) (by omega) (by omega) (fun k h1 h2 rec => ?_) (fun rec => ?_)
  · show (if nI 25 ≤ nI k then _ else _) = _
    rw [if_neg (nI_ge h2 (by omega)), cr_w_reached h2 (Or.inl rfl), pm_s1]
    show rec _ (ck_set_reached σ (upd (wz (ck_reached σ) 0 k) k 0)) = _
    rw [wz_s h1]
  · show (if nI 25 ≤ nI 25 then _ else _) = _
    rw [if_pos (nI_le (Nat.le_refl _) (by omega))]
theorem cr_came {σ : ck_S} {f : Nat} (h : f < 25) : ck_rd_came σ (nI f) = some (ck_came σ f) := pm_rdN h (by decide)
theorem cr_w_came {σ : ck_S} {f : Nat} {v : Int32} (h : f < 25) (hv : v = 0 ∨ v = 1) : ck_wr_came σ (nI f) v = some (ck_set_came σ (upd (ck_came σ) f v)) := by
  show (ik_wr (ck_came σ) 25 (nI f) (vp_nar .boolean v)).map (ck_set_came σ) = _
  rw [pm_wrN h (by decide), pm_nar hv]; rfl
theorem pm_unmark13 {σ : ck_S} : fX7_unmark_13 σ = some (ck_set_came σ (wz (ck_came σ) 0 25)) := by
  unfold fX7_unmark_13
  refine Eq.trans (congrArg (fun s => qp2 FU _ (nI 0) s) (show σ = ck_set_came σ (wz (ck_came σ) 0 0) by rw [wz_0]; rfl)) ?_
  refine qp2_for (fun k => nI k) (fun k => ck_set_came σ (wz (ck_came σ) 0 k)) (i := 0) (N := 25) (by omega) (by omega) (fun k h1 h2 rec => ?_) (fun rec => ?_)
  · show (if nI 25 ≤ nI k then _ else _) = _
    rw [if_neg (nI_ge h2 (by omega)), cr_w_came h2 (Or.inl rfl), pm_s1]
    show rec _ (ck_set_came σ (upd (wz (ck_came σ) 0 k) k 0)) = _
    rw [wz_s h1]
  · show (if nI 25 ≤ nI 25 then _ else _) = _
    rw [if_pos (nI_le (Nat.le_refl _) (by omega))]
theorem cr_rightly {σ : ck_S} {f : Nat} (h : f < 25) : ck_rd_rightly σ (nI f) = some (ck_rightly σ f) := pm_rdN h (by decide)
theorem cr_w_rightly {σ : ck_S} {f : Nat} {v : Int32} (h : f < 25) (hv : v = 0 ∨ v = 1) : ck_wr_rightly σ (nI f) v = some (ck_set_rightly σ (upd (ck_rightly σ) f v)) := by
  show (ik_wr (ck_rightly σ) 25 (nI f) (vp_nar .boolean v)).map (ck_set_rightly σ) = _
  rw [pm_wrN h (by decide), pm_nar hv]; rfl
theorem pm_unmark14 {σ : ck_S} : fX7_unmark_14 σ = some (ck_set_rightly σ (wz (ck_rightly σ) 0 25)) := by
  unfold fX7_unmark_14
  refine Eq.trans (congrArg (fun s => qp2 FU _ (nI 0) s) (show σ = ck_set_rightly σ (wz (ck_rightly σ) 0 0) by rw [wz_0]; rfl)) ?_
  refine qp2_for (fun k => nI k) (fun k => ck_set_rightly σ (wz (ck_rightly σ) 0 k)) (i := 0) (N := 25) (by omega) (by omega) (fun k h1 h2 rec => ?_) (fun rec => ?_)
  · show (if nI 25 ≤ nI k then _ else _) = _
    rw [if_neg (nI_ge h2 (by omega)), cr_w_rightly h2 (Or.inl rfl), pm_s1]
    show rec _ (ck_set_rightly σ (upd (wz (ck_rightly σ) 0 k) k 0)) = _
    rw [wz_s h1]
  · show (if nI 25 ≤ nI 25 then _ else _) = _
    rw [if_pos (nI_le (Nat.le_refl _) (by omega))]
theorem mr_reached {ρ : mk_S} {f : Nat} (h : f < 25) : mk_rd_reached ρ (nI f) = some (mk_reached ρ f) := pm_rdN h (by decide)
theorem mr_w_reached {ρ : mk_S} {f : Nat} {v : Int32} (h : f < 25) (hv : v = 0 ∨ v = 1) : mk_wr_reached ρ (nI f) v = some (mk_set_reached ρ (upd (mk_reached ρ) f v)) := by
  show (ik_wr (mk_reached ρ) 25 (nI f) (vp_nar .boolean v)).map (mk_set_reached ρ) = _
  rw [pm_wrN h (by decide), pm_nar hv]; rfl
theorem mr_rightly {ρ : mk_S} {f : Nat} (h : f < 25) : mk_rd_rightly ρ (nI f) = some (mk_rightly ρ f) := pm_rdN h (by decide)
theorem mr_w_rightly {ρ : mk_S} {f : Nat} {v : Int32} (h : f < 25) (hv : v = 0 ∨ v = 1) : mk_wr_rightly ρ (nI f) v = some (mk_set_rightly ρ (upd (mk_rightly ρ) f v)) := by
  show (ik_wr (mk_rightly ρ) 25 (nI f) (vp_nar .boolean v)).map (mk_set_rightly ρ) = _
  rw [pm_wrN h (by decide), pm_nar hv]; rfl
theorem mr_goesOn {ρ : mk_S} {f : Nat} (h : f < 25) : mk_rd_goesOn ρ (nI f) = some (mk_goesOn ρ f) := pm_rdN h (by decide)
theorem mr_w_goesOn {ρ : mk_S} {f : Nat} {v : Int32} (h : f < 25) (hv : v = 0 ∨ v = 1) : mk_wr_goesOn ρ (nI f) v = some (mk_set_goesOn ρ (upd (mk_goesOn ρ) f v)) := by
  show (ik_wr (mk_goesOn ρ) 25 (nI f) (vp_nar .boolean v)).map (mk_set_goesOn ρ) = _
  rw [pm_wrN h (by decide), pm_nar hv]; rfl
theorem mr_held {ρ : mk_S} {f : Nat} (h : f < 25) : mk_rd_held ρ (nI f) = some (mk_held ρ f) := pm_rdN h (by decide)
theorem mr_w_held {ρ : mk_S} {f : Nat} {v : Int32} (h : f < 25) (hv : v = 0 ∨ v = 1) : mk_wr_held ρ (nI f) v = some (mk_set_held ρ (upd (mk_held ρ) f v)) := by
  show (ik_wr (mk_held ρ) 25 (nI f) (vp_nar .boolean v)).map (mk_set_held ρ) = _
  rw [pm_wrN h (by decide), pm_nar hv]; rfl
theorem mr_owner {ρ : mk_S} {f : Nat} (h : f < 201) : mk_rd_owner ρ (nI f) = some (mk_owner ρ f) := pm_rdN h (by decide)
theorem mr_w_owner {ρ : mk_S} {f : Nat} {v : Int32} (h : f < 201) : mk_wr_owner ρ (nI f) v = some (mk_set_owner ρ (upd (mk_owner ρ) f v)) := by
  show (ik_wr (mk_owner ρ) 201 (nI f) v).map (mk_set_owner ρ) = _
  rw [pm_wrN h (by decide)]; rfl
theorem mr_list {ρ : mk_S} {f : Nat} (h : f < 24) : mk_rd_list ρ (nI f) = some (mk_list ρ f) := pm_rdN h (by decide)
theorem mr_w_list {ρ : mk_S} {f : Nat} {v : Int32} (h : f < 24) : mk_wr_list ρ (nI f) v = some (mk_set_list ρ (upd (mk_list ρ) f v)) := by
  show (ik_wr (mk_list ρ) 24 (nI f) v).map (mk_set_list ρ) = _
  rw [pm_wrN h (by decide)]; rfl
theorem cr_queue {σ : ck_S} {f : Nat} (h : f < 24) : ck_rd_queue σ (nI f) = some (ck_queue σ f) := pm_rdN h (by decide)
theorem cr_w_queue {σ : ck_S} {f : Nat} {v : Int32} (h : f < 24) : ck_wr_queue σ (nI f) v = some (ck_set_queue σ (upd (ck_queue σ) f v)) := by
  show (ik_wr (ck_queue σ) 24 (nI f) v).map (ck_set_queue σ) = _
  rw [pm_wrN h (by decide)]; rfl
theorem cr_waitOn {σ : ck_S} {f : Nat} (h : f < 24) : ck_rd_waitOn σ (nI f) = some (ck_waitOn σ f) := pm_rdN h (by decide)
theorem cr_w_waitOn {σ : ck_S} {f : Nat} {v : Int32} (h : f < 24) : ck_wr_waitOn σ (nI f) v = some (ck_set_waitOn σ (upd (ck_waitOn σ) f v)) := by
  show (ik_wr (ck_waitOn σ) 24 (nI f) v).map (ck_set_waitOn σ) = _
  rw [pm_wrN h (by decide)]; rfl
theorem cr_held {σ : ck_S} {f : Nat} (h : f < 25) : ck_rd_held σ (nI f) = some (ck_held σ f) := pm_rdN h (by decide)
