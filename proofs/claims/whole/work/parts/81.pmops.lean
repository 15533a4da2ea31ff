theorem q_set : lm_set Rl := by
  intro σ ρ hR p0 p1 p2
  rcases ix_file p0 with h0 | ⟨g, hg, rfl⟩
  · refine Or.inr ⟨mk_set_code ρ 1, ?_, ?_, rfl, Rl_code hR⟩
    · simp [tX7_set, pm_needFile0 h0 σ]
    · simp [fX8_set, pm_isIn0 h0, jn, ik_b2, pm_may0]
  · rcases ix_n p1 (n := 5) (by decide) with h1 | ⟨w, hw, rfl⟩
    · refine Or.inr ⟨mk_set_code ρ 1, ?_, ?_, rfl, Rl_code hR⟩
      · simp [tX7_set, pm_needFile2 hg σ, pm_needFile1 hg, pm_np0 (n := 5) h1 σ]
      · simp [fX8_set, pm_isIn1 (pm_f1 hg) (pm_f2 hg), pm_isIn0 (show p1 < 0 ∨ (4 : Int32) < p1 from ix_b (n := 4) (by decide) h1), jn, ik_b2, pm_may0]
    · refine Or.inl ⟨cw σ (g * 47 + w) p2, mw (mk_set_code ρ 0) (io (g * 47 + w)) p2, ?_, ?_, rfl, Rl_w (Rl_code hR) (by omega) (by omega)⟩
      · simp [fX7_set, pm_needFile1 hg, pm_np1 (n := 5) hw (by decide), show fX7_needPlace (nI w) 5 = some () from pm_np1 hw (by decide), pm_putNumber hg (show w < 47 by omega)]
      · have e : mk_wr_all (mk_set_code ρ 0) (47 * nI (g + 1) + nI w) p2 = some (mw (mk_set_code ρ 0) (io (g * 47 + w)) p2) := by
          rw [pm_mc, nI_add, pm_mwr (by omega), io1 (by omega)]; congr 2; omega
        simp [fX8_set, pm_isIn1 (pm_f1 hg) (pm_f2 hg), pm_isIn1 (show ¬ nI w < 0 from nI_pos (by omega)) (show ¬ (4 : Int32) < nI w from ix_o (n := 4) (by decide) (by omega)), jn, ik_b2, pm_may1, e]
theorem q_run : lm_run Rl := by
  intro σ ρ hR p0 p1 p2 p3 p4
  rcases ix_file p0 with h0 | ⟨g, hg, rfl⟩
  · refine Or.inr ⟨mk_set_code ρ 1, ?_, ?_, rfl, Rl_code hR⟩
    · simp [tX7_run, pm_needFile0 h0 σ]
    · simp [fX8_run, pm_isIn0 h0, jn, ik_b2, pm_may0]
  · rcases ix_n p1 (n := 6) (by decide) with h1 | ⟨k, hk, rfl⟩
    · refine Or.inr ⟨mk_set_code ρ 1, ?_, ?_, rfl, Rl_code hR⟩
      · simp [tX7_run, pm_needFile2 hg σ, pm_needFile1 hg, pm_np0 (n := 6) h1 σ]
      · simp [fX8_run, pm_isIn1 (pm_f1 hg) (pm_f2 hg), pm_isIn0 (show p1 < 0 ∨ (5 : Int32) < p1 from ix_b (n := 5) (by decide) h1), jn, ik_b2, pm_may0]
    · refine Or.inl ⟨cw3 σ (g * 47 + 5 + k * 3) p2 p3 p4, mw3 (mk_set_code ρ 0) (g * 47 + 5 + k * 3 + 47) p2 p3 p4, ?_, ?_, rfl, Rl_w3 (Rl_code hR) (by omega)⟩
      · simp [fX7_run, pm_needFile1 hg, show fX7_needPlace (nI k) 6 = some () from pm_np1 hk (by decide), pm_putRun hg hk]
      · simp [fX8_run, pm_isIn1 (pm_f1 hg) (pm_f2 hg), pm_isIn1 (show ¬ nI k < 0 from nI_pos (by omega)) (show ¬ (5 : Int32) < nI k from ix_o (n := 5) (by decide) (by omega)), jn, ik_b2, pm_may1, pm_runAt, pm_put (show g * 47 + 52 + k * 3 + 2 < 1429 by omega), show g * 47 + 5 + k * 3 + 47 = g * 47 + 52 + k * 3 by omega]
theorem q_entry : lm_entry Rl := by
  intro σ ρ hR p0 p1 p2 p3 p4
  rcases ix_file p0 with h0 | ⟨g, hg, rfl⟩
  · refine Or.inr ⟨mk_set_code ρ 1, ?_, ?_, rfl, Rl_code hR⟩
    · simp [tX7_entry, pm_needFile0 h0 σ]
    · simp [fX8_entry, pm_isIn0 h0, jn, ik_b2, pm_may0]
  · rcases ix_n p1 (n := 8) (by decide) with h1 | ⟨k, hk, rfl⟩
    · refine Or.inr ⟨mk_set_code ρ 1, ?_, ?_, rfl, Rl_code hR⟩
      · simp [tX7_entry, pm_needFile2 hg σ, pm_needFile1 hg, pm_np0 (n := 8) h1 σ]
      · simp [fX8_entry, pm_isIn1 (pm_f1 hg) (pm_f2 hg), pm_isIn0 (show p1 < 0 ∨ (7 : Int32) < p1 from ix_b (n := 7) (by decide) h1), jn, ik_b2, pm_may0]
    · refine Or.inl ⟨cw3 σ (g * 47 + 23 + k * 3) p2 p3 p4, mw3 (mk_set_code ρ 0) (g * 47 + 23 + k * 3 + 47) p2 p3 p4, ?_, ?_, rfl, Rl_w3 (Rl_code hR) (by omega)⟩
      · simp [fX7_entry, pm_needFile1 hg, show fX7_needPlace (nI k) 8 = some () from pm_np1 hk (by decide), pm_putEntry hg hk]
      · simp [fX8_entry, pm_isIn1 (pm_f1 hg) (pm_f2 hg), pm_isIn1 (show ¬ nI k < 0 from nI_pos (by omega)) (show ¬ (7 : Int32) < nI k from ix_o (n := 7) (by decide) (by omega)), jn, ik_b2, pm_may1, pm_entryAt, pm_put (show g * 47 + 70 + k * 3 + 2 < 1429 by omega), show g * 47 + 23 + k * 3 + 47 = g * 47 + 70 + k * 3 by omega]
theorem q_about : lm_about Rl := by
  intro σ ρ hR p0 p1
  rcases ix_file p0 with h0 | ⟨g, hg, rfl⟩
  · refine Or.inr ⟨0, mk_set_code ρ 1, ?_, ?_, rfl, Rl_code hR⟩
    · simp [tX7_about, pm_needFile0 h0 σ]
    · simp [fX8_about, pm_isIn0 h0, jn, ik_b2, pm_may0]
  · rcases ix_n p1 (n := 5) (by decide) with h1 | ⟨w, hw, rfl⟩
    · refine Or.inr ⟨0, mk_set_code ρ 1, ?_, ?_, rfl, Rl_code hR⟩
      · simp [tX7_about, pm_needFile2 hg σ, pm_needFile1 hg, pm_np0 (n := 5) h1 σ]
      · simp [fX8_about, pm_isIn1 (pm_f1 hg) (pm_f2 hg), pm_isIn0 (show p1 < 0 ∨ (4 : Int32) < p1 from ix_b (n := 4) (by decide) h1), jn, ik_b2, pm_may0]
    · refine Or.inl ⟨ck_cells σ (g * 47 + w), mk_set_code ρ 0, ?_, ?_, rfl, Rl_code hR⟩
      · simp [fX7_about, pm_needFile1 hg, show fX7_needPlace (nI w) 5 = some () from pm_np1 hw (by decide), pm_number hg (show w < 47 by omega)]
      · have e : mk_rd_all (mk_set_code ρ 0) (47 * nI (g + 1) + nI w) = some (ck_cells σ (g * 47 + w)) := by
          rw [pm_mc, nI_add, pm_mrd (by omega), ← Rl_r hR (show g * 47 + w < 1355 by omega), io1 (by omega)]
          show some (mk_all ρ _) = _; congr 2; omega
        simp [fX8_about, pm_isIn1 (pm_f1 hg) (pm_f2 hg), pm_isIn1 (show ¬ nI w < 0 from nI_pos (by omega)) (show ¬ (4 : Int32) < nI w from ix_o (n := 4) (by decide) (by omega)), jn, ik_b2, pm_may1, e]
theorem q_runOf : lm_runOf Rl := by
  intro σ ρ hR p0 p1 p2
  rcases ix_file p0 with h0 | ⟨g, hg, rfl⟩
  · refine Or.inr ⟨0, mk_set_code ρ 1, ?_, ?_, rfl, Rl_code hR⟩
    · simp [tX7_runOf, pm_needFile0 h0 σ]
    · simp [fX8_runOf, pm_isIn0 h0, jn, ik_b2, pm_may0]
  · rcases ix_n p1 (n := 6) (by decide) with h1 | ⟨k, hk, rfl⟩
    · refine Or.inr ⟨0, mk_set_code ρ 1, ?_, ?_, rfl, Rl_code hR⟩
      · simp [tX7_runOf, pm_needFile2 hg σ, pm_needFile1 hg, pm_np0 (n := 6) h1 σ]
      · simp [fX8_runOf, pm_isIn1 (pm_f1 hg) (pm_f2 hg), pm_isIn0 (show p1 < 0 ∨ (5 : Int32) < p1 from ix_b (n := 5) (by decide) h1), jn, ik_b2, pm_may0]
    · have a1 := pm_isIn1 (show ¬ nI k < 0 from nI_pos (by omega)) (show ¬ (5 : Int32) < nI k from ix_o (n := 5) (by decide) (by omega))
      have a2 : fX7_needPlace (nI k) 6 = some () := pm_np1 hk (by decide)
      have a3 : ¬ tX7_needPlace (nI k) 6 σ = some () := pm_np2 hk (by decide) σ
      rcases ix_n p2 (n := 3) (by decide) with h2 | ⟨w, hw, rfl⟩
      · refine Or.inr ⟨0, mk_set_code ρ 1, ?_, ?_, rfl, Rl_code hR⟩
        · simp [tX7_runOf, pm_needFile2 hg σ, pm_needFile1 hg, a2, a3, pm_np0 (n := 3) h2 σ]
        · simp [fX8_runOf, pm_isIn1 (pm_f1 hg) (pm_f2 hg), a1, pm_isIn0 (show p2 < 0 ∨ (2 : Int32) < p2 from ix_b (n := 2) (by decide) h2), jn, ik_b2, pm_may0]
      · refine Or.inl ⟨ck_cells σ (g * 47 + 5 + k * 3 + w), mk_set_code ρ 0, ?_, ?_, rfl, Rl_code hR⟩
        · simp [fX7_runOf, pm_needFile1 hg, a2, show fX7_needPlace (nI w) 3 = some () from pm_np1 hw (by decide), pm_runPart hg hk hw]
        · have e : mk_rd_all (mk_set_code ρ 0) (nI (g * 47 + 52 + k * 3) + nI w) = some (ck_cells σ (g * 47 + 5 + k * 3 + w)) := by
            rw [nI_add, pm_mrd (by omega), ← Rl_r hR (show g * 47 + 5 + k * 3 + w < 1355 by omega), io1 (by omega)]
            show some (mk_all ρ _) = _; congr 2; omega
          simp [fX8_runOf, pm_isIn1 (pm_f1 hg) (pm_f2 hg), a1, pm_isIn1 (show ¬ nI w < 0 from nI_pos (by omega)) (show ¬ (2 : Int32) < nI w from ix_o (n := 2) (by decide) (by omega)), jn, ik_b2, pm_may1, pm_runAt, e]
theorem q_entryOf : lm_entryOf Rl := by
  intro σ ρ hR p0 p1 p2
  rcases ix_file p0 with h0 | ⟨g, hg, rfl⟩
  · refine Or.inr ⟨0, mk_set_code ρ 1, ?_, ?_, rfl, Rl_code hR⟩
    · simp [tX7_entryOf, pm_needFile0 h0 σ]
    · simp [fX8_entryOf, pm_isIn0 h0, jn, ik_b2, pm_may0]
  · rcases ix_n p1 (n := 8) (by decide) with h1 | ⟨k, hk, rfl⟩
    · refine Or.inr ⟨0, mk_set_code ρ 1, ?_, ?_, rfl, Rl_code hR⟩
      · simp [tX7_entryOf, pm_needFile2 hg σ, pm_needFile1 hg, pm_np0 (n := 8) h1 σ]
      · simp [fX8_entryOf, pm_isIn1 (pm_f1 hg) (pm_f2 hg), pm_isIn0 (show p1 < 0 ∨ (7 : Int32) < p1 from ix_b (n := 7) (by decide) h1), jn, ik_b2, pm_may0]
    · have a1 := pm_isIn1 (show ¬ nI k < 0 from nI_pos (by omega)) (show ¬ (7 : Int32) < nI k from ix_o (n := 7) (by decide) (by omega))
      have a2 : fX7_needPlace (nI k) 8 = some () := pm_np1 hk (by decide)
      have a3 : ¬ tX7_needPlace (nI k) 8 σ = some () := pm_np2 hk (by decide) σ
      rcases ix_n p2 (n := 3) (by decide) with h2 | ⟨w, hw, rfl⟩
      · refine Or.inr ⟨0, mk_set_code ρ 1, ?_, ?_, rfl, Rl_code hR⟩
        · simp [tX7_entryOf, pm_needFile2 hg σ, pm_needFile1 hg, a2, a3, pm_np0 (n := 3) h2 σ]
        · simp [fX8_entryOf, pm_isIn1 (pm_f1 hg) (pm_f2 hg), a1, pm_isIn0 (show p2 < 0 ∨ (2 : Int32) < p2 from ix_b (n := 2) (by decide) h2), jn, ik_b2, pm_may0]
      · refine Or.inl ⟨ck_cells σ (g * 47 + 23 + k * 3 + w), mk_set_code ρ 0, ?_, ?_, rfl, Rl_code hR⟩
        · simp [fX7_entryOf, pm_needFile1 hg, a2, show fX7_needPlace (nI w) 3 = some () from pm_np1 hw (by decide), pm_entryPart hg hk hw]
        · have e : mk_rd_all (mk_set_code ρ 0) (nI (g * 47 + 70 + k * 3) + nI w) = some (ck_cells σ (g * 47 + 23 + k * 3 + w)) := by
            rw [nI_add, pm_mrd (by omega), ← Rl_r hR (show g * 47 + 23 + k * 3 + w < 1355 by omega), io1 (by omega)]
            show some (mk_all ρ _) = _; congr 2; omega
          simp [fX8_entryOf, pm_isIn1 (pm_f1 hg) (pm_f2 hg), a1, pm_isIn1 (show ¬ nI w < 0 from nI_pos (by omega)) (show ¬ (2 : Int32) < nI w from ix_o (n := 2) (by decide) (by omega)), jn, ik_b2, pm_may1, pm_entryAt, e]
theorem pm_putTold {w : Nat} (hw : w < 3) {v : Int32} {σ : ck_S} : fX5_putTold (nI w) v σ = some (cw σ (1352 + w) v) := by
  unfold fX5_putTold
  rw [show (1352 : Int32) = nI 1352 from rfl, nI_add, pm_wr (by omega)]; rfl
theorem pm_toldNumber {w : Nat} (hw : w < 3) {σ : ck_S} : fX5_toldNumber (nI w) σ = some (ck_cells σ (1352 + w)) := by
  unfold fX5_toldNumber
  rw [show (1352 : Int32) = nI 1352 from rfl, nI_add, pm_rd (by omega)]; rfl
theorem q_tell : lm_tell Rl := by
  intro σ ρ hR p0 p1
  rcases ix_n p0 (n := 3) (by decide) with h1 | ⟨w, hw, rfl⟩
  · refine Or.inr ⟨mk_set_code ρ 1, ?_, ?_, rfl, Rl_code hR⟩
    · simp [tX7_tell, pm_np0 (n := 3) h1 σ]
    · simp [fX8_tell, pm_isIn0 (show p0 < 0 ∨ (2 : Int32) < p0 from ix_b (n := 2) (by decide) h1), jn, ik_b2, pm_may0]
  · refine Or.inl ⟨cw σ (1352 + w) p1, mw (mk_set_code ρ 0) (io (1352 + w)) p1, ?_, ?_, rfl, Rl_w (Rl_code hR) (by omega) (by omega)⟩
    · simp [fX7_tell, show fX7_needPlace (nI w) 3 = some () from pm_np1 hw (by decide), pm_putTold hw]
    · have e : mk_wr_all (mk_set_code ρ 0) (1426 + nI w) p1 = some (mw (mk_set_code ρ 0) (io (1352 + w)) p1) := by
        rw [show (1426 : Int32) = nI 1426 from rfl, nI_add, pm_mwr (by omega), show 1352 + w = 1328 + (24 + w) by omega, io3 (by omega)]; congr 2; omega
      simp [fX8_tell, pm_isIn1 (show ¬ nI w < 0 from nI_pos (by omega)) (show ¬ (2 : Int32) < nI w from ix_o (n := 2) (by decide) (by omega)), jn, ik_b2, pm_may1, e]
theorem q_told : lm_told Rl := by
  intro σ ρ hR p0
  rcases ix_n p0 (n := 3) (by decide) with h1 | ⟨w, hw, rfl⟩
  · refine Or.inr ⟨0, mk_set_code ρ 1, ?_, ?_, rfl, Rl_code hR⟩
    · simp [tX7_told, pm_np0 (n := 3) h1 σ]
    · simp [fX8_told, pm_isIn0 (show p0 < 0 ∨ (2 : Int32) < p0 from ix_b (n := 2) (by decide) h1), jn, ik_b2, pm_may0]
  · refine Or.inl ⟨ck_cells σ (1352 + w), mk_set_code ρ 0, ?_, ?_, rfl, Rl_code hR⟩
    · simp [fX7_told, show fX7_needPlace (nI w) 3 = some () from pm_np1 hw (by decide), pm_toldNumber hw]
    · have e : mk_rd_all (mk_set_code ρ 0) (1426 + nI w) = some (ck_cells σ (1352 + w)) := by
        rw [show (1426 : Int32) = nI 1426 from rfl, nI_add, pm_mrd (by omega), ← Rl_r hR (show 1352 + w < 1355 by omega), show 1352 + w = 1328 + (24 + w) by omega, io3 (by omega)]
        show some (mk_all ρ _) = _; congr 2; omega
      simp [fX8_told, pm_isIn1 (show ¬ nI w < 0 from nI_pos (by omega)) (show ¬ (2 : Int32) < nI w from ix_o (n := 2) (by decide) (by omega)), jn, ik_b2, pm_may1, e]
theorem pm_nar {v : Int32} (h : v = 0 ∨ v = 1) : vp_nar .boolean v = v := by
  rcases h with rfl | rfl <;> rfl
theorem pm_hwr {σ : ck_S} {f : Nat} {v : Int32} (h : f < 25) (hv : v = 0 ∨ v = 1) : ck_wr_held σ (nI f) v = some (ck_set_held σ (upd (ck_held σ) f v)) := by
  show (ik_wr (ck_held σ) 25 (nI f) (vp_nar .boolean v)).map (ck_set_held σ) = _
  rw [pm_wrN h (by decide), pm_nar hv]; rfl
theorem pm_mhwr {ρ : mk_S} {f : Nat} {v : Int32} (h : f < 25) (hv : v = 0 ∨ v = 1) : mk_wr_held ρ (nI f) v = some (mk_set_held ρ (upd (mk_held ρ) f v)) := by
  show (ik_wr (mk_held ρ) 25 (nI f) (vp_nar .boolean v)).map (mk_set_held ρ) = _
  rw [pm_wrN h (by decide), pm_nar hv]; rfl
theorem Rl_h {σ : ck_S} {ρ : mk_S} {i : Nat} {v : Int32} (h : Rl σ ρ) (hv : v = 0 ∨ v = 1) : Rl (ck_set_held σ (upd (ck_held σ) i v)) (mk_set_held ρ (upd (mk_held ρ) i v)) := by
  obtain ⟨h1, h2, h3, h4⟩ := h
  refine ⟨h1, fun f hf => ?_, fun f hf => ?_, h4⟩
  · show upd (mk_held ρ) i v f = upd (ck_held σ) i v f
    by_cases q : f = i
    · subst q; rw [pk_us, pk_us]
    · rw [pk_un q, pk_un q]; exact h2 f hf
  · show upd (ck_held σ) i v f = 0 ∨ upd (ck_held σ) i v f = 1
    by_cases q : f = i
    · subst q; rw [pk_us]; exact hv
    · rw [pk_un q]; exact h3 f hf
theorem q_hold : lm_hold Rl := by
  intro σ ρ hR p0 p1 hp
  rcases ix_file p0 with h0 | ⟨g, hg, rfl⟩
  · refine Or.inr ⟨mk_set_code ρ 1, ?_, ?_, rfl, Rl_code hR⟩
    · simp [tX7_hold, pm_needFile0 h0 σ]
    · simp [fX8_hold, pm_isIn0 h0, ik_b2, pm_may0]
  · refine Or.inl ⟨_, _, ?_, ?_, ?_, Rl_h (i := g + 1) (v := p1) (Rl_code (c := 0) hR) hp⟩
    · simp [fX7_hold, pm_needFile1 hg, pm_hwr (show g + 1 < 25 by omega) hp]
    · simp [fX8_hold, pm_isIn1 (pm_f1 hg) (pm_f2 hg), ik_b2, pm_may1, pm_mhwr (show g + 1 < 25 by omega) hp]
    · rfl
/-- a bit that there is: of a block, of a file -/
theorem ix_bit (x y : Int32) : ((∃ i : Nat, i < 200 ∧ x = 0 ∧ y = nI (i + 1)) ∨ ∃ g : Nat, g < 24 ∧ x = 1 ∧ y = nI (g + 1)) ∨ (fX7_needBit x y = none ∧ (∀ σ, tX7_needBit x y σ = some ()) ∧ fX8_isBit x y = some 0) := by
  by_cases h0 : x = 0
  · subst h0
    rcases pk_ix y (n := 201) (by decide) with h | h | ⟨j, hj, rfl⟩
    · have h1 : y < 1 := by
        rw [Int32.lt_iff_toInt_lt] at h ⊢
        have e0 : (0 : Int32).toInt = 0 := rfl
        have e1 : (1 : Int32).toInt = 1 := rfl
        omega
      exact Or.inr ⟨by simp [fX7_needBit, jn, h1], fun σ => by simp [tX7_needBit, jn, h1], by simp [fX8_isBit, jn, pm_isIn0 (lo := 1) (hi := 200) (Or.inl h1)]⟩
    · have h1 : (200 : Int32) < y := by
        rw [Int32.lt_iff_toInt_lt]
        rw [Int32.le_iff_toInt_le] at h
        have e0 : (200 : Int32).toInt = 200 := rfl
        have e1 : (nI 201).toInt = 201 := rfl
        omega
      exact Or.inr ⟨by simp [fX7_needBit, jn, h1], fun σ => by simp [tX7_needBit, jn, h1], by simp [fX8_isBit, jn, pm_isIn0 (lo := 1) (hi := 200) (Or.inr h1)]⟩
    · cases j with
      | zero => exact Or.inr ⟨by decide, fun σ => by simp [tX7_needBit, jn]; decide, by decide⟩
      | succ i => exact Or.inl (Or.inl ⟨i, by omega, rfl, rfl⟩)
  · by_cases h1 : x = 1
    · subst h1
      rcases ix_file y with h | ⟨g, hg, rfl⟩
      · exact Or.inr ⟨by simp [fX7_needBit, jn, pm_isFile0 h], fun σ => by simp [tX7_needBit, jn, pm_isFile0 h], by simp [fX8_isBit, jn, pm_isIn0 h]⟩
      · exact Or.inl (Or.inr ⟨g, hg, rfl, rfl⟩)
    · exact Or.inr ⟨by simp [fX7_needBit, jn, h0, h1], fun σ => by simp [tX7_needBit, jn, h0, h1], by simp [fX8_isBit, jn, h0, h1]⟩
theorem pm_b1 {i : Nat} (h : i < 200) : ¬ nI (i + 1) < 1 := pm_lt (b := 1) (by omega) (by decide) (by omega)
theorem pm_b2 {i : Nat} (h : i < 200) : ¬ 200 < nI (i + 1) := pm_lt (a := 200) (by decide) (by omega) (by omega)
theorem pm_bc0 {i : Nat} : fX5_bitCell 0 (nI (i + 1)) = some (nI (1128 + i)) := by
  simp only [fX5_bitCell, jn, if_true]
  rw [show (1128 : Int32) = nI 1128 from rfl, nI_add, show 1128 + (i + 1) = 1128 + i + 1 by omega, nI_pred]
theorem pm_bc1 {i : Nat} : fX5_bitCell 1 (nI (i + 1)) = some (nI (1328 + i)) := by
  have h : ¬ (1 : Int32) = 0 := by decide
  simp only [fX5_bitCell, jn, h, if_false]
  rw [show (1328 : Int32) = nI 1328 from rfl, nI_add, show 1328 + (i + 1) = 1328 + i + 1 by omega, nI_pred]
theorem pm_nb0 {i : Nat} (h : i < 200) : fX7_needBit 0 (nI (i + 1)) = some () := by simp [fX7_needBit, jn, pm_b1 h, pm_b2 h]
theorem pm_nb1 {g : Nat} (h : g < 24) : fX7_needBit 1 (nI (g + 1)) = some () := by simp [fX7_needBit, jn, pm_isFile1 h]
theorem pm_ib0 {i : Nat} (h : i < 200) : fX8_isBit 0 (nI (i + 1)) = some 1 := by simp [fX8_isBit, jn, pm_isIn1 (pm_b1 h) (pm_b2 h)]
theorem pm_ib1 {g : Nat} (h : g < 24) : fX8_isBit 1 (nI (g + 1)) = some 1 := by simp [fX8_isBit, jn, pm_isIn1 (pm_f1 h) (pm_f2 h)]
theorem pm_putBit0 {i : Nat} (h : i < 200) {v : Int32} {σ : ck_S} : fX5_putBit 0 (nI (i + 1)) v σ = some (cw σ (1128 + i) v) := by
  unfold fX5_putBit; rw [pm_bc0]
  show (ck_wr_cells σ (nI _) v).bind _ = _
  rw [pm_wr (by omega)]; rfl
theorem pm_putBit1 {i : Nat} (h : i < 24) {v : Int32} {σ : ck_S} : fX5_putBit 1 (nI (i + 1)) v σ = some (cw σ (1328 + i) v) := by
  unfold fX5_putBit; rw [pm_bc1]
  show (ck_wr_cells σ (nI _) v).bind _ = _
  rw [pm_wr (by omega)]; rfl
theorem pm_bitOf0 {i : Nat} (h : i < 200) {σ : ck_S} : fX5_bitOf 0 (nI (i + 1)) σ = some (ck_cells σ (1128 + i)) := by
  unfold fX5_bitOf; rw [pm_bc0]
  show (ck_rd_cells σ (nI _)).bind _ = _
  rw [pm_rd (by omega)]; rfl
theorem pm_bitOf1 {i : Nat} (h : i < 24) {σ : ck_S} : fX5_bitOf 1 (nI (i + 1)) σ = some (ck_cells σ (1328 + i)) := by
  unfold fX5_bitOf; rw [pm_bc1]
  show (ck_rd_cells σ (nI _)).bind _ = _
  rw [pm_rd (by omega)]; rfl
theorem ik_b2_some {α β ρ : Type} {x : α} {y : β} {k : α → β → Option ρ} : ik_b2 (some (x, y)) k = k x y := rfl
theorem pm_bitm {ρ : mk_S} {x y p2 : Int32} {j : Nat} {B : Int32} (h : fX8_isBit x y = some 1) (hp : p2 = 0 ∨ p2 = 1) (hB : B = if x = 0 then 1200 else 1401) (he : ∀ v : Int32, mk_wr_all (mk_set_code ρ 0) (B + y) v = some (mw (mk_set_code ρ 0) j v)) : fX8_bit x y p2 ρ = some (mw (mk_set_code ρ 0) j p2) := by
  have h10 : ¬ (1 : Int32) = 0 := by decide
  unfold fX8_bit
  rw [h, Option.bind_some, pm_may1, ik_b2_some, if_neg h10]
  obtain ⟨j29, e29⟩ : ∃ k : Int32 → Option mk_S, k = fun (y5 : Int32) => jn (fun (y6 : Int32) => (mk_wr_all (mk_set_code ρ 0) (y5 + y) y6).bind fun s => some s) (fun j40 => if p2 = 0 then j40 0 else j40 1) := ⟨_, rfl⟩
  have hj : j29 B = some (mw (mk_set_code ρ 0) j p2) := by
    rw [e29]
    show (if p2 = 0 then (mk_wr_all (mk_set_code ρ 0) (B + y) 0).bind (fun s => some s) else (mk_wr_all (mk_set_code ρ 0) (B + y) 1).bind fun s => some s) = _
    rw [he, he]
    rcases hp with rfl | rfl
    · rw [if_pos rfl]; rfl
    · rw [if_neg h10]; rfl
  show (if x = 0 then (fun (y5 : Int32) => jn (fun (y6 : Int32) => (mk_wr_all (mk_set_code ρ 0) (y5 + y) y6).bind fun s => some s) (fun j40 => if p2 = 0 then j40 0 else j40 1)) 1200 else (fun (y5 : Int32) => jn (fun (y6 : Int32) => (mk_wr_all (mk_set_code ρ 0) (y5 + y) y6).bind fun s => some s) (fun j40 => if p2 = 0 then j40 0 else j40 1)) 1401) = _
  rw [← e29]
  by_cases hx : x = 0
  · rw [if_pos hx] at hB ⊢; rw [← hB]; exact hj
  · rw [if_neg hx] at hB ⊢; rw [← hB]; exact hj
theorem pm_bitc {σ τ : ck_S} {x y p2 : Int32} (h : fX7_needBit x y = some ()) (hp : p2 = 0 ∨ p2 = 1) (he : fX5_putBit x y p2 σ = some τ) : fX7_bit x y p2 σ = some τ := by
  have h10 : ¬ (1 : Int32) = 0 := by decide
  rcases hp with rfl | rfl
  · simp only [fX7_bit, jn, h, he, Option.bind_some, if_true]
  · simp only [fX7_bit, jn, h, he, Option.bind_some, h10, if_false]
theorem q_bit : lm_bit Rl := by
  intro σ ρ hR p0 p1 p2 hp
  rcases ix_bit p0 p1 with (⟨i, hi, rfl, rfl⟩ | ⟨g, hg, rfl, rfl⟩) | ⟨h1, h2, h3⟩
  · refine Or.inl ⟨cw σ (1128 + i) p2, mw (mk_set_code ρ 0) (io (1128 + i)) p2, pm_bitc (pm_nb0 hi) hp (pm_putBit0 hi), pm_bitm (B := 1200) (pm_ib0 hi) hp rfl (fun v => ?_), rfl, Rl_w (Rl_code hR) (by omega) (fun _ _ => hp)⟩
    rw [show (1200 : Int32) = nI 1200 from rfl, nI_add, show 1200 + (i + 1) = 1201 + i by omega, pm_mwr (by omega), io2 hi]
  · refine Or.inl ⟨cw σ (1328 + g) p2, mw (mk_set_code ρ 0) (io (1328 + g)) p2, pm_bitc (pm_nb1 hg) hp (pm_putBit1 hg), pm_bitm (B := 1401) (pm_ib1 hg) hp rfl (fun v => ?_), rfl, Rl_w (Rl_code hR) (by omega) (fun _ _ => hp)⟩
    rw [show (1401 : Int32) = nI 1401 from rfl, nI_add, show 1401 + (g + 1) = 1402 + g by omega, pm_mwr (by omega), io3 (by omega)]
  · refine Or.inr ⟨mk_set_code ρ 1, ?_, ?_, rfl, Rl_code hR⟩
    · simp [tX7_bit, h2 σ]
    · simp [fX8_bit, h3, ik_b2, pm_may0]
theorem q_isTaken : lm_isTaken Rl := by
  intro σ ρ hR p0 p1
  have key : ∀ v : Int32, v = 0 ∨ v = 1 → lk_z (if v = 0 then 0 else 1) = lk_z (if v = 1 then 1 else 0) := by
    intro v hv; rcases hv with rfl | rfl <;> decide
  rcases ix_bit p0 p1 with (⟨i, hi, rfl, rfl⟩ | ⟨g, hg, rfl, rfl⟩) | ⟨h1, h2, h3⟩
  · refine Or.inl ⟨_, _, mk_set_code ρ 0, ?_, ?_, rfl, key (ck_cells σ (1128 + i)) (hR.2.2.2 _ (by omega) (by omega)), Rl_code hR⟩
    · simp only [fX7_isTaken, pm_nb0 hi, pm_bitOf0 hi, Option.bind_some]; split <;> rfl
    · have e : mk_rd_all (mk_set_code ρ 0) (1200 + nI (i + 1)) = some (ck_cells σ (1128 + i)) := by
        rw [show (1200 : Int32) = nI 1200 from rfl, nI_add, pm_mrd (by omega), ← Rl_r hR (show 1128 + i < 1355 by omega), io2 hi]
        show some (mk_all ρ _) = _; congr 2; omega
      have h10 : ¬ (1 : Int32) = 0 := by decide
      simp only [fX8_isTaken, jn, ik_b2, pm_ib0 hi, pm_may1, e, Option.bind_some, h10, if_false, if_true]; split <;> rfl
  · refine Or.inl ⟨_, _, mk_set_code ρ 0, ?_, ?_, rfl, key (ck_cells σ (1328 + g)) (hR.2.2.2 _ (by omega) (by omega)), Rl_code hR⟩
    · simp only [fX7_isTaken, pm_nb1 hg, pm_bitOf1 hg, Option.bind_some]; split <;> rfl
    · have e : mk_rd_all (mk_set_code ρ 0) (1401 + nI (g + 1)) = some (ck_cells σ (1328 + g)) := by
        rw [show (1401 : Int32) = nI 1401 from rfl, nI_add, pm_mrd (by omega), ← Rl_r hR (show 1328 + g < 1355 by omega), io3 (by omega)]
        show some (mk_all ρ _) = _; congr 2; omega
      have h10 : ¬ (1 : Int32) = 0 := by decide
      simp only [fX8_isTaken, jn, ik_b2, pm_ib1 hg, pm_may1, e, Option.bind_some, h10, if_false]; split <;> rfl
  · refine Or.inr ⟨0, mk_set_code ρ 1, ?_, ?_, rfl, Rl_code hR⟩
    · simp [tX7_isTaken, h2 σ]
    · simp [fX8_isTaken, h3, ik_b2, pm_may0]
