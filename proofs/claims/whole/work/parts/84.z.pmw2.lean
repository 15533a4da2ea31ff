theorem vb_s (ρ : mk_S) (k : Nat) : vb ρ (k + 1) = mw (vb ρ k) (1201 + k) 1 := rfl
theorem mw_sa {ρ : mk_S} {X : Nat → Int32} {k : Nat} {v : Int32} : mw (mk_set_all ρ X) k v = mk_set_all ρ (upd X k v) := rfl
theorem mh_sa {ρ : mk_S} {X : Nat → Int32} : mk_held (mk_set_all ρ X) = mk_held ρ := rfl
theorem mh_id {ρ : mk_S} : mk_set_held ρ (mk_held ρ) = ρ := rfl
theorem ma_id {ρ : mk_S} : mk_set_all ρ (mk_all ρ) = ρ := rfl
theorem mh_up {ρ : mk_S} {X : Nat → Int32} {k : Nat} (h : k < 25) : mk_wr_held (mk_set_held ρ X) (nI k) 0 = some (mk_set_held ρ (upd X k 0)) := by
  rw [pm_mhwr h (Or.inl rfl)]; rfl
def va0 (ρ : mk_S) : mk_S := mk_set_all ρ (wz (mk_all ρ) 0 1429)
theorem va0_held {ρ : mk_S} : mk_held (va0 ρ) = mk_held ρ := rfl
theorem vb_0 (ρ : mk_S) : vb ρ 0 = mw (mw (mw (mk_set_held (va0 ρ) (wz (mk_held ρ) 0 25)) 47 2) 49 2) 51 1 := rfl
theorem pm_mW3 {ρ : mk_S} : qp2 FU (fun rec69 (x10 : Int32) (σ11 : mk_S) =>
            if 8 < x10 then (
              (mk_wr_all σ11 1402 1).bind fun σ13 =>
              (mk_wr_all σ13 1426 192).bind fun σ14 =>
              (mk_wr_all σ14 1427 23).bind fun σ15 =>
              some σ15
              ) else (
              (mk_wr_all σ11 (1200 + x10) 1).bind fun σ16 =>
              rec69 (x10 + 1) σ16
              )
            ) (nI 1) (vb ρ 0) = some (vt ρ) := by
  refine qp2_for (fun k => nI (k + 1)) (fun k => vb ρ k) (i := 0) (N := 8) (by omega) (by omega) (fun k h1 h2 rec => ?_) (fun rec => ?_)
  · show (if nI 8 < nI (k + 1) then _ else _) = _
    rw [if_neg (pm_lt (by omega) (by omega) (by omega)), show (1200 : Int32) + nI (k + 1) = nI (1201 + k) from by rw [show (1200 : Int32) = nI 1200 from rfl, nI_add, show 1200 + (k + 1) = 1201 + k by omega], pm_mwr (by omega), Option.bind_some, pm_s1]
    exact congrArg (rec _) (vb_s ρ k).symm
  · show (if nI 8 < nI 9 then _ else _) = _
    rw [if_pos (nI_lt (by omega) (by omega))]
    rw [show mk_wr_all (vb ρ 8) 1402 1 = some (mw (vb ρ 8) 1402 1) from pm_mwr (j := 1402) (by omega), Option.bind_some]
    rw [show mk_wr_all (mw (vb ρ 8) 1402 1) 1426 192 = some (mw (mw (vb ρ 8) 1402 1) 1426 192) from pm_mwr (j := 1426) (by omega), Option.bind_some]
    rw [show mk_wr_all (mw (mw (vb ρ 8) 1402 1) 1426 192) 1427 23 = some (mw (mw (mw (vb ρ 8) 1402 1) 1426 192) 1427 23) from pm_mwr (j := 1427) (by omega), Option.bind_some]
    unfold vt; rfl
theorem pm_mWhole {ρ : mk_S} : fX8_makeWhole ρ = some (vt ρ) := by
  unfold fX8_makeWhole
  refine Eq.trans (congrArg (fun s => qp2 FU _ (nI 0) s) (show ρ = mk_set_all ρ (wz (mk_all ρ) 0 0) by rw [wz_0, ma_id])) ?_
  refine qp2_for (fun k => nI k) (fun k => mk_set_all ρ (wz (mk_all ρ) 0 k)) (i := 0) (N := 1429) (by omega) (by omega) (fun k h1 h2 rec => ?_) (fun rec => ?_)
  · show (if nI 1429 ≤ nI k then _ else _) = _
    rw [if_neg (nI_ge h2 (by omega)), pm_mwr (by omega), Option.bind_some, pm_s1, mw_sa, wz_s h1]
  show (if nI 1429 ≤ nI 1429 then _ else _) = _
  rw [if_pos (nI_le (Nat.le_refl _) (by omega))]
  refine Eq.trans (congrArg (fun s => qp2 FU _ (nI 0) s) (show va0 ρ = mk_set_held (va0 ρ) (wz (mk_held ρ) 0 0) by rw [wz_0, ← va0_held, mh_id])) ?_
  refine qp2_for (fun k => nI k) (fun k => mk_set_held (va0 ρ) (wz (mk_held ρ) 0 k)) (i := 0) (N := 25) (by omega) (by omega) (fun k h1 h2 rec => ?_) (fun rec => ?_)
  · show (if nI 24 < nI k then _ else _) = _
    rw [if_neg (pm_lt (by omega) (by omega) (by omega)), mh_up h2, Option.bind_some, pm_s1, wz_s h1]
  show (if nI 24 < nI 25 then _ else _) = _
  rw [if_pos (nI_lt (by omega) (by omega))]
  obtain ⟨y0, e0⟩ : ∃ y, y = mk_set_held (va0 ρ) (wz (mk_held ρ) 0 25) := ⟨_, rfl⟩
  rw [← e0]
  rw [show mk_wr_all y0 47 2 = some (mw y0 47 2) from pm_mwr (j := 47) (by omega), Option.bind_some]
  rw [show mk_wr_all (mw y0 47 2) 49 2 = some (mw (mw y0 47 2) 49 2) from pm_mwr (j := 49) (by omega), Option.bind_some]
  rw [show mk_wr_all (mw (mw y0 47 2) 49 2) 51 1 = some (mw (mw (mw y0 47 2) 49 2) 51 1) from pm_mwr (j := 51) (by omega), Option.bind_some]
  rw [e0, ← vb_0]
  exact pm_mW3
