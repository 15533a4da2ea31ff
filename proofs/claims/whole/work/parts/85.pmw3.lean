theorem Rt_whole {σ : ck_S} {ρ : mk_S} (h : ∃ z, mk_all ρ = mA (ck_cells σ) z) : Rt (wt σ) (vt ρ) := by
  obtain ⟨z, hz⟩ := h
  have h0 : Rt (ck_set_cells σ (wz (ck_cells σ) 0 1355)) (mk_set_held (mk_set_all ρ (wz (mk_all ρ) 0 1429)) (wz (mk_held ρ) 0 25)) := by
    refine ⟨⟨wz z 0 1429, ?_⟩, fun i i1 i2 => Or.inl ?_⟩
    · show wz (mk_all ρ) 0 1429 = mA (wz (ck_cells σ) 0 1355) _
      rw [hz]; exact mA_zero
    · show wz (ck_cells σ) 0 1355 i = 0
      exact wz_in (by omega) (by omega)
  have h1 := Rt_w (i := 4) (v := 1) (Rt_w (i := 2) (v := 2) (Rt_w (i := 0) (v := 2) h0 (by omega) (by omega)) (by omega) (by omega)) (by omega) (by omega)
  rw [show io 0 = 47 by decide, show io 2 = 49 by decide, show io 4 = 51 by decide] at h1
  have h2 : ∀ n, n ≤ 8 → Rt (wb σ n) (vb ρ n) := by
    intro n
    induction n with
    | zero => intro _; exact h1
    | succ n ih =>
      intro hn
      have h3 := Rt_w (i := 1128 + n) (v := 1) (ih (by omega)) (by omega) (fun _ _ => Or.inr rfl)
      rw [io2 (by omega)] at h3
      exact h3
  have h4 := Rt_w (i := 1328) (v := 1) (h2 8 (Nat.le_refl _)) (by omega) (fun _ _ => Or.inr rfl)
  have h5 := Rt_w (i := 1352) (v := 192) h4 (by omega) (by omega)
  have h6 := Rt_w (i := 1353) (v := 23) h5 (by omega) (by omega)
  rw [show io 1328 = 1402 by decide, show io 1352 = 1426 by decide, show io 1353 = 1427 by decide] at h6
  exact h6
theorem cw_held {σ : ck_S} {i : Nat} {v : Int32} : ck_held (cw σ i v) = ck_held σ := rfl
theorem mw_held {ρ : mk_S} {i : Nat} {v : Int32} : mk_held (mw ρ i v) = mk_held ρ := rfl
theorem cs_held {σ : ck_S} {f : Nat → Int32} : ck_held (ck_set_cells σ f) = ck_held σ := rfl
theorem ms_held {ρ : mk_S} {f : Nat → Int32} : mk_held (mk_set_held ρ f) = f := rfl
theorem wb_held {σ : ck_S} : ∀ n, ck_held (wb σ n) = ck_held σ := by
  intro n
  induction n with
  | zero => unfold wb; rw [cw_held, cw_held, cw_held, cs_held]
  | succ n ih => unfold wb; rw [cw_held, ih]
theorem vb_held {ρ : mk_S} : ∀ n, mk_held (vb ρ n) = wz (mk_held ρ) 0 25 := by
  intro n
  induction n with
  | zero => unfold vb; rw [mw_held, mw_held, mw_held, ms_held]
  | succ n ih => unfold vb; rw [mw_held, ih]
theorem wt_held {σ : ck_S} : ck_held (wt σ) = ck_held σ := by unfold wt; rw [cw_held, cw_held, cw_held, wb_held]
theorem vt_held {ρ : mk_S} : mk_held (vt ρ) = wz (mk_held ρ) 0 25 := by unfold vt; rw [mw_held, mw_held, mw_held, vb_held]
theorem Rt_held {σ : ck_S} {ρ : mk_S} {f : Nat → Int32} (h : Rt σ ρ) : Rt (ck_set_held σ f) ρ := h
theorem sh_held {σ : ck_S} {f : Nat → Int32} : ck_held (ck_set_held σ f) = f := rfl
theorem q_clear : lm_clear Rl := by
  intro σ ρ hR
  refine ⟨ck_set_held (wt σ) (wz (ck_held (wt σ)) 0 25), vt (mk_set_code ρ 0), ?_, ?_, ?_⟩
  · unfold fX7_clear
    rw [pm_cWhole, Option.bind_some, pm_unmark4, Option.bind_some]
  · unfold fX8_clear
    rw [Option.bind_some, pm_mWhole, Option.bind_some]
  · have h := Rt_whole (σ := σ) (ρ := mk_set_code ρ 0) hR.1
    refine Rt_l (Rt_held h) (fun f hf => ?_) (fun f hf => ?_)
    · rw [vt_held, sh_held, wz_in (by omega) hf, wz_in (by omega) hf]
    · rw [sh_held, wz_in (by omega) hf]; exact Or.inl rfl
theorem q_init : lm_init Rl := by
  refine ⟨wt ck_0, vt mk_0, pm_cWhole, pm_mWhole, ?_⟩
  have h := Rt_whole (σ := ck_0) (ρ := mk_0) ⟨fun _ => 0, by
    funext k
    show (0 : Int32) = _
    rcases mA_cs k with h | h | h | h
    · rw [mA_1 h.1 h.2]; rfl
    · rw [mA_2 h.1 h.2]; rfl
    · rw [mA_3 h.1 h.2]; rfl
    · rw [mA_4 h]⟩
  refine Rt_l h (fun f hf => ?_) (fun f hf => ?_)
  · rw [vt_held, wt_held, wz_in (by omega) hf]; rfl
  · rw [wt_held]; exact Or.inl rfl
