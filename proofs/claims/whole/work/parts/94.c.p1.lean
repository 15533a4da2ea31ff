/-! the first pass: the runs of a record -/
theorem Vk_0 {T : Nat → Int32} {g k : Nat} (e1 : T (g * 47 + 5 + k * 3 + 1) = 0) (e2 : T (g * 47 + 5 + k * 3 + 2) = 0) : Vk T g k := ⟨0, 0, e2, e1, by omega, by omega, Or.inl rfl⟩
theorem cz_at {σ : ck_S} {i j k : Nat} : ck_cells (cz σ i j) k = wz (ck_cells σ) i j k := rfl
theorem pm_wrf {g p : Nat} (hg : g < 24) (hp : p ≤ 6) {σ : ck_S} : fX5_wipeRunsFrom (nI (g + 1)) (nI p) σ = some (cz σ (g * 47 + 5 + p * 3) (g * 47 + 23)) := by
  unfold fX5_wipeRunsFrom
  rw [pm_runCell, Option.bind_some, show fX5_runCell (nI (g + 1)) 6 = _ from pm_runCell (k := 6), Option.bind_some, pm_wipeCells (by omega) (by omega), Option.bind_some]; rfl
theorem pm_wef {g p : Nat} (hg : g < 24) (hp : p ≤ 8) {σ : ck_S} : fX5_wipeEntriesFrom (nI (g + 1)) (nI p) σ = some (cz σ (g * 47 + 23 + p * 3) (g * 47 + 47)) := by
  unfold fX5_wipeEntriesFrom
  rw [pm_entryCell, Option.bind_some, show fX5_entryCell (nI (g + 1)) 8 = _ from pm_entryCell (k := 8), Option.bind_some, pm_wipeCells (by omega) (by omega), Option.bind_some]; rfl
theorem pm_wf {g : Nat} (hg : g < 24) {σ : ck_S} : fX5_wipeFile (nI (g + 1)) σ = some (cz σ (g * 47) (g * 47 + 47)) := by
  unfold fX5_wipeFile fX5_fileCell
  rw [Option.bind_some, Option.bind_some, pm_fc, show (47 : Int32) = nI 47 from rfl, nI_add, pm_wipeCells (by omega) (by omega), Option.bind_some]; rfl
theorem pm_mbl {i j : Nat} (hij : i ≤ j) (hj : j ≤ 1429) {ρ : mk_S} : fX8_blank (nI i) (nI j) ρ = some (mz ρ i j) := pm_blank hij hj
theorem pm_drop {g : Nat} (hg : g < 24) {ρ : mk_S} : fX8_dropRecord (nI (g + 1)) ρ = some (mz ρ (g * 47 + 47) (g * 47 + 47 + 47)) := by
  unfold fX8_dropRecord
  rw [pm_mc, show (47 : Int32) = nI 47 from rfl, nI_add, pm_mbl (by omega) (by omega), Option.bind_some]
theorem nd_eq {m : Nat} (hm : m ≤ 65536) : (nI m + 1024 - 1) / 1024 = nI ((m + 1023) / 1024) ∧ (nI m + 1023) / 1024 = nI ((m + 1023) / 1024) := by
  constructor
  · rw [show (1024 : Int32) = nI 1024 from rfl, nI_add, show m + 1024 = (m + 1023) + 1 by omega, nI_pred, pk_div (by omega) (by omega) (by omega)]
  · rw [show (1023 : Int32) = nI 1023 from rfl, show (1024 : Int32) = nI 1024 from rfl, nI_add, pk_div (by omega) (by omega) (by omega)]
theorem sub_neg {d a n : Nat} (hd : d ≤ 64) (ha : a ≤ 64) (hn : 1 ≤ n) (hn2 : n ≤ 64) (h : d ≤ a) : nI d - nI a < nI n ∧ nI d - nI a < 1 ∧ nI d - nI a ≤ 0 := by
  have e := pk_sub_toInt (a := d) (b := a) (by omega) (by omega)
  refine ⟨?_, ?_, ?_⟩
  · rw [Int32.lt_iff_toInt_lt, e, nI_toInt (by omega)]; omega
  · rw [Int32.lt_iff_toInt_lt, e, show (1 : Int32).toInt = 1 from rfl]; omega
  · rw [Int32.le_iff_toInt_le, e, show (0 : Int32).toInt = 0 from rfl]; omega
theorem runs_rl {z M B : Nat → Int32} {σ : ck_S} {ρ : mk_S} {g m : Nat} (hg : g < 24) (h : P1 z M B σ ρ) (hm : m ≤ 65536) (em : ck_cells σ (g * 47 + 1) = nI m) :
    rl (fun s r => P1 z M B s r ∧ (∀ i, i < g * 47 + 5 ∨ g * 47 + 23 ≤ i → ck_cells s i = ck_cells σ i) ∧ ∀ k, k < 6 → Vk (ck_cells s) g k) (fX4_mendRuns (nI (g + 1)) σ) (fX8_checkRuns (nI (g + 1)) ρ) := by
  have h10 : ¬ (1 : Int32) = 0 := by decide
  unfold fX4_mendRuns fX8_checkRuns
  obtain ⟨nd1, nd2⟩ := nd_eq hm
  have hd : (m + 1023) / 1024 ≤ 64 := by omega
  obtain ⟨d, ed⟩ : ∃ d, d = (m + 1023) / 1024 := ⟨_, rfl⟩
  rw [← ed] at nd1 nd2 hd
  rw [show fX5_number (nI (g + 1)) 1 σ = _ from pm_number (w := 1) hg (by omega), Option.bind_some, pm_mc, pm_s1, rz_rdE h.1 (j := g * 47 + 1) (by omega) (by omega), Option.bind_some, em]
  simp only [nd1, nd2]
  refine rl4 (fun k x2 x3 x4 s y2 y3 y4 r => ∃ p, p ≤ k ∧ x2 = nI p ∧ y2 = nI p ∧ x3 = y3 ∧ x4 = nI k ∧ y4 = nI k ∧ P1 z M B s r ∧ (∀ i, i < g * 47 + 5 ∨ g * 47 + 23 ≤ i → ck_cells s i = ck_cells σ i) ∧ ∀ k, k < p → Vk (ck_cells s) g k) (N := 6) (by omega) ⟨0, by omega, rfl, rfl, rfl, rfl, rfl, h, fun _ _ => rfl, fun _ q => absurd q (by omega)⟩ (fun k hk x2 x3 x4 s y2 y3 y4 r hI rc rm hn => ?_) (fun x2 x3 x4 s y2 y3 y4 r hI rc rm => ?_)
  · obtain ⟨p, hp, rfl, rfl, rfl, rfl, rfl, hP, hF, hV⟩ := hI
    obtain ⟨r0, r1, r2⟩ := rz_run hP.1 hg hk
    obtain ⟨c0, c1, c2⟩ := pm_rp (σ := s) hg hk
    have skip : rl (fun s r => P1 z M B s r ∧ (∀ i, i < g * 47 + 5 ∨ g * 47 + 23 ≤ i → ck_cells s i = ck_cells σ i) ∧ ∀ k, k < 6 → Vk (ck_cells s) g k) (rc (nI p) x3 (nI (k + 1)) s) (rm (nI p) x3 (nI (k + 1)) r) := hn _ _ _ _ _ _ _ _ ⟨p, by omega, rfl, rfl, rfl, rfl, rfl, hP, hF, hV⟩
    rw [if_neg (uge 6 6 k), if_neg (uge 6 6 k)]
    simp only [c0, c1, c2, pm_runAt, r0, r1, r2, Option.bind_some]
    rcases ri_cs (ck_cells s (g * 47 + 5 + k * 3)) (ck_cells s (g * 47 + 5 + k * 3 + 1)) (ck_cells s (g * 47 + 5 + k * 3 + 2)) with ⟨q1, q2⟩ | ⟨a, n, b, ea, en, eb, n1, n2, an, b1, bn, q1, q2⟩
    · simp only [q1, q2, Option.bind_some, jn, if_true, pm_s1]
      exact skip
    · rw [q1, q2]
      simp only [jn, if_false, h10, ea, en, eb, Option.bind_some, pm_s1, if_true]
      rcases Nat.lt_or_ge a d with ad | ad
      · have key : ∃ c, 1 ≤ c ∧ c ≤ n ∧ (if nI d - nI a < nI n then nI d - nI a else nI n) = nI c ∧ ((nI a + nI n ≤ nI d ∧ n = c) ∨ (¬ nI a + nI n ≤ nI d ∧ nI d - nI a = nI c)) := by
          rw [nI_add, pk_sub (by omega)]
          by_cases q : a + n ≤ d
          · refine ⟨n, n1, by omega, ?_, Or.inl ⟨nI_le q (by omega), rfl⟩⟩
            rw [if_neg (nI_nlt (by omega) (by omega))]
          · refine ⟨d - a, by omega, by omega, ?_, Or.inr ⟨nI_ge (by omega) (by omega), rfl⟩⟩
            rw [if_pos (nI_lt (by omega) (by omega))]
        obtain ⟨c, c1, c4, e1, e3⟩ := key
        rw [e1, if_neg (vnl c 1 1)]
        rcases e3 with ⟨q, e3⟩ | ⟨q, e3⟩
        · rw [if_pos q, e3]
          rw [if_neg (vge c 0 0)]
          by_cases q3 : nI a < x3
          · rw [if_pos q3, if_pos q3]; exact skip
          · rw [if_neg q3, if_neg q3]
            by_cases q4 : ∀ i, i < c → ck_inRuns s (b + i) = 0
            · rw [any_0 (by omega) q4, fre_1 (by omega) (fun i hi => (hP.2.2.2 _ (by omega)).mp (q4 i hi))]
              simp only [Option.bind_some, if_true, h10, if_false]
              rw [pm_mark (by omega), Option.bind_some, pm_putRun hg (by omega), Option.bind_some, pm_mmark (b := b) (c := c) (e := fun s19 => (fX8_put (nI (g * 47 + 52 + p * 3)) (nI a) (nI c) (nI b) s19).bind fun s22 => rm (nI (p + 1)) (nI a + nI c) (nI (k + 1)) s22) (by omega), pm_put (by omega), Option.bind_some]
              refine hn _ _ _ _ _ _ _ _ ⟨p + 1, by omega, rfl, rfl, rfl, rfl, rfl, ?_, fun i hi => ?_, fun j hj => ?_⟩
              · have := P1_w3 (x := nI a) (y := nI c) (w := nI b) (P1_mark (b := b) (c := c) hg hP) (i := g * 47 + 5 + p * 3) (by omega)
                rw [show g * 47 + 5 + p * 3 + 47 = g * 47 + 52 + p * 3 by omega] at this
                exact this
              · rw [cw3_ne (by omega)]; exact hF i hi
              · rcases Nat.lt_or_ge j p with q5 | q5
                · exact Vk_eq (hV j q5) (cw3_ne (by omega)) (cw3_ne (by omega))
                · rw [show j = p by omega]
                  refine ⟨b, c, ?_, ?_, by omega, by omega, by omega⟩
                  · rw [cw3_at, if_pos rfl]
                  · rw [cw3_at, if_neg (by omega), if_pos rfl]
            · obtain ⟨i, hi, hi2⟩ : ∃ i, (i < c ∧ ck_inRuns s (b + i) ≠ 0) ∧ ∀ j, j < i → ¬ (j < c ∧ ck_inRuns s (b + j) ≠ 0) := pk_least _ (by
                rcases Classical.not_forall.mp q4 with ⟨i, hi⟩
                exact ⟨i, Classical.byContradiction fun q => hi (fun q1 => Classical.byContradiction fun q2 => q ⟨q1, q2⟩)⟩)
              have lo : ∀ j, j < i → ck_inRuns s (b + j) = 0 := fun j hj => Classical.byContradiction fun q => hi2 j hj ⟨by omega, q⟩
              rw [any_1 (by omega) hi.1 hi.2 lo, fre_0 (by omega) hi.1 (fun q => hi.2 ((hP.2.2.2 _ (by omega)).mpr q)) (fun j hj => (hP.2.2.2 _ (by omega)).mp (lo j hj))]
              simp only [Option.bind_some, if_true, h10, if_false]
              exact skip
        · rw [if_neg q, e3]
          rw [if_neg (vge c 0 0)]
          by_cases q3 : nI a < x3
          · rw [if_pos q3, if_pos q3]; exact skip
          · rw [if_neg q3, if_neg q3]
            by_cases q4 : ∀ i, i < c → ck_inRuns s (b + i) = 0
            · rw [any_0 (by omega) q4, fre_1 (by omega) (fun i hi => (hP.2.2.2 _ (by omega)).mp (q4 i hi))]
              simp only [Option.bind_some, if_true, h10, if_false]
              rw [pm_mark (by omega), Option.bind_some, pm_putRun hg (by omega), Option.bind_some, pm_mmark (b := b) (c := c) (e := fun s19 => (fX8_put (nI (g * 47 + 52 + p * 3)) (nI a) (nI c) (nI b) s19).bind fun s22 => rm (nI (p + 1)) (nI a + nI c) (nI (k + 1)) s22) (by omega), pm_put (by omega), Option.bind_some]
              refine hn _ _ _ _ _ _ _ _ ⟨p + 1, by omega, rfl, rfl, rfl, rfl, rfl, ?_, fun i hi => ?_, fun j hj => ?_⟩
              · have := P1_w3 (x := nI a) (y := nI c) (w := nI b) (P1_mark (b := b) (c := c) hg hP) (i := g * 47 + 5 + p * 3) (by omega)
                rw [show g * 47 + 5 + p * 3 + 47 = g * 47 + 52 + p * 3 by omega] at this
                exact this
              · rw [cw3_ne (by omega)]; exact hF i hi
              · rcases Nat.lt_or_ge j p with q5 | q5
                · exact Vk_eq (hV j q5) (cw3_ne (by omega)) (cw3_ne (by omega))
                · rw [show j = p by omega]
                  refine ⟨b, c, ?_, ?_, by omega, by omega, by omega⟩
                  · rw [cw3_at, if_pos rfl]
                  · rw [cw3_at, if_neg (by omega), if_pos rfl]
            · obtain ⟨i, hi, hi2⟩ : ∃ i, (i < c ∧ ck_inRuns s (b + i) ≠ 0) ∧ ∀ j, j < i → ¬ (j < c ∧ ck_inRuns s (b + j) ≠ 0) := pk_least _ (by
                rcases Classical.not_forall.mp q4 with ⟨i, hi⟩
                exact ⟨i, Classical.byContradiction fun q => hi (fun q1 => Classical.byContradiction fun q2 => q ⟨q1, q2⟩)⟩)
              have lo : ∀ j, j < i → ck_inRuns s (b + j) = 0 := fun j hj => Classical.byContradiction fun q => hi2 j hj ⟨by omega, q⟩
              rw [any_1 (by omega) hi.1 hi.2 lo, fre_0 (by omega) hi.1 (fun q => hi.2 ((hP.2.2.2 _ (by omega)).mpr q)) (fun j hj => (hP.2.2.2 _ (by omega)).mp (lo j hj))]
              simp only [Option.bind_some, if_true, h10, if_false]
              exact skip
      · obtain ⟨s1, s2, s3⟩ := sub_neg (d := d) (a := a) (n := n) hd (by omega) n1 n2 ad
        rw [if_pos s1, if_pos s2, nI_add, if_neg (nI_ge (by omega) (by omega)), if_pos s3]
        exact skip
  · obtain ⟨p, hp, rfl, rfl, rfl, rfl, rfl, hP, hF, hV⟩ := hI
    rw [if_pos (ule 6 6 6), if_pos (ule 6 6 6), pm_wrf hg hp, Option.bind_some, pm_runAt, Option.bind_some, show fX8_runAt (nI (g + 1)) 6 = _ from pm_runAt (k := 6), Option.bind_some, pm_mbl (by omega) (by omega), Option.bind_some]
    have hz := P1_z hP (i := g * 47 + 5 + p * 3) (j := g * 47 + 23) (by omega)
    rw [show g * 47 + 5 + p * 3 + 47 = g * 47 + 52 + p * 3 by omega, show g * 47 + 23 + 47 = g * 47 + 52 + 6 * 3 by omega] at hz
    refine rl_ret ⟨hz, fun i hi => ?_, fun j hj => ?_⟩
    · rw [cz_at, wz_out (by omega)]; exact hF i hi
    · rcases Nat.lt_or_ge j p with q5 | q5
      · exact Vk_eq (hV j q5) (by rw [cz_at, wz_out (by omega)]) (by rw [cz_at, wz_out (by omega)])
      · exact Vk_0 (by rw [cz_at, wz_in (by omega) (by omega)]) (by rw [cz_at, wz_in (by omega) (by omega)])
