/-! the first pass: a record, and all of them -/
def Ok1 (T : Nat → Int32) (g : Nat) : Prop := (∃ n, n ≤ 3 ∧ T (g * 47) = nI n) ∧ (T (g * 47) = 0 → ∀ w, w < 47 → T (g * 47 + w) = 0) ∧ (T (g * 47) ≠ 2 → ∀ w, 23 ≤ w → w < 47 → T (g * 47 + w) = 0) ∧ ∀ k, k < 6 → Vk T g k
theorem Ok1_eq {T U : Nat → Int32} {g : Nat} (h : Ok1 T g) (e : ∀ i, g * 47 ≤ i → i < g * 47 + 47 → U i = T i) : Ok1 U g := by
  obtain ⟨h1, h2, h3, h4⟩ := h
  have e0 : U (g * 47) = T (g * 47) := e _ (by omega) (by omega)
  refine ⟨?_, ?_, ?_, fun k hk => Vk_eq (h4 k hk) (e _ (by omega) (by omega)) (e _ (by omega) (by omega))⟩
  · rw [e0]; exact h1
  · rw [e0]; exact fun q w hw => by rw [e _ (by omega) (by omega)]; exact h2 q w hw
  · rw [e0]; exact fun q w hw hw2 => by rw [e _ (by omega) (by omega)]; exact h3 q w hw hw2
def mkr (p0 : Int32) (σ1 : mk_S) : Option mk_S :=
    (mk_rd_all σ1 (47 * p0)).bind fun v2 =>
    jn (fun (_u : Unit) =>
      (fX8_dropRecord p0 σ1).bind fun σ3 =>
      some σ3
      ) (fun j67 =>
    if v2 < 1 then (
      j67 ()
      ) else (
      (mk_rd_all σ1 (47 * p0)).bind fun v5 =>
      if v5 ≤ 3 then (
        (mk_rd_all σ1 ((47 * p0) + 1)).bind fun v7 =>
        jn (fun (σ8 : mk_S) =>
          (fX8_checkRuns p0 σ8).bind fun σ9 =>
          (mk_rd_all σ9 (47 * p0)).bind fun v10 =>
          if v10 = 2 then (
            some σ9
            ) else (
            (fX8_blank ((47 * p0) + 23) ((47 * p0) + 47) σ9).bind fun σ12 =>
            some σ12
            )
          ) (fun j114 =>
        jn (fun (_u : Unit) =>
          (fX8_greatestEnd p0 σ1).bind fun v13 =>
          (mk_wr_all σ1 ((47 * p0) + 1) (1024 * v13)).bind fun σ14 =>
          j114 σ14
          ) (fun j97 =>
        if v7 < 0 then (
          j97 ()
          ) else (
          (mk_rd_all σ1 ((47 * p0) + 1)).bind fun v16 =>
          if v16 ≤ 65536 then (
            j114 σ1
            ) else (
            j97 ()
            )
          )
        ))) else (
        j67 ()
        )
      )
    )
def R1 (z M B : Nat → Int32) (g : Nat) (σ s : ck_S) (r : mk_S) : Prop := P1 z M B s r ∧ Ok1 (ck_cells s) g ∧ (∀ i, i < g * 47 ∨ g * 47 + 47 ≤ i → ck_cells s i = ck_cells σ i) ∧ (ck_cells σ (g * 47) = 2 → ck_cells s (g * 47) = 2)
theorem rec_fin {z M B : Nat → Int32} {σ s : ck_S} {r : mk_S} {g m j : Nat} (hg : g < 24) (h : P1 z M B s r) (hm : m ≤ 65536) (em : ck_cells s (g * 47 + 1) = nI m) (hj : j ≤ 3) (hj0 : 1 ≤ j) (ej : ck_cells s (g * 47) = nI j) (hF : ∀ i, i ≠ g * 47 + 1 → ck_cells s i = ck_cells σ i) :
    rl (R1 z M B g σ) ((fX4_mendRuns (nI (g + 1)) s).bind fun σ6 => if nI j = 2 then some σ6 else (fX5_wipeEntriesFrom (nI (g + 1)) 0 σ6).bind fun σ8 => some σ8) ((fX8_checkRuns (nI (g + 1)) r).bind fun σ9 => (mk_rd_all σ9 (nI (g * 47 + 47))).bind fun v10 => if v10 = 2 then some σ9 else (fX8_blank (nI (g * 47 + 47) + 23) (nI (g * 47 + 47) + 47) σ9).bind fun σ12 => some σ12) := by
  refine rl_bd (runs_rl hg h hm em) (fun s6 r9 h6 => ?_)
  obtain ⟨hP, hF6, hV⟩ := h6
  have k6 : ck_cells s6 (g * 47) = nI j := by rw [hF6 _ (by omega)]; exact ej
  have fr : ∀ i, i < g * 47 ∨ g * 47 + 47 ≤ i → ck_cells s6 i = ck_cells σ i := fun i hi => by rw [hF6 i (by omega)]; exact hF i (by omega)
  have n0 : nI j ≠ 0 := nI_ne0 (by omega) (by omega)
  rw [rz_rd hP.1 (show g * 47 < 1128 by omega), Option.bind_some, k6]
  by_cases c : nI j = 2
  · rw [if_pos c, if_pos c]
    refine rl_ret ⟨hP, ⟨⟨j, hj, k6⟩, fun q => absurd (k6 ▸ q) n0, fun q => absurd (k6.trans c) q, hV⟩, fr, fun _ => k6.trans c⟩
  · rw [if_neg c, if_neg c, show fX5_wipeEntriesFrom (nI (g + 1)) 0 s6 = _ from pm_wef (p := 0) hg (by omega), Option.bind_some, show (23 : Int32) = nI 23 from rfl, show (47 : Int32) = nI 47 from rfl, nI_add, nI_add, pm_mbl (by omega) (by omega), Option.bind_some]
    have hz := P1_z hP (i := g * 47 + 23 + 0 * 3) (j := g * 47 + 47) (by omega)
    rw [show g * 47 + 23 + 0 * 3 + 47 = g * 47 + 47 + 23 by omega] at hz
    have kz : ck_cells (cz s6 (g * 47 + 23 + 0 * 3) (g * 47 + 47)) (g * 47) = nI j := by rw [cz_at, wz_out (by omega)]; exact k6
    refine rl_ret ⟨hz, ⟨⟨j, hj, kz⟩, fun q => absurd (kz ▸ q) n0, fun _ w h1 h2 => ?_, fun k hk => ?_⟩, fun i hi => ?_, fun q => ?_⟩
    · rw [cz_at, wz_in (by omega) (by omega)]
    · exact Vk_eq (hV k hk) (by rw [cz_at, wz_out (by omega)]) (by rw [cz_at, wz_out (by omega)])
    · rw [cz_at, wz_out (by omega)]; exact fr i hi
    · rw [← hF _ (by omega), ej] at q
      exact absurd q c
theorem rec_rl {z M B : Nat → Int32} {σ : ck_S} {ρ : mk_S} {g : Nat} (hg : g < 24) (h : P1 z M B σ ρ) : rl (R1 z M B g σ) (fX4_mendRecord (nI (g + 1)) σ) (mkr (nI (g + 1)) ρ) := by
  unfold fX4_mendRecord mkr
  have wipe : ck_cells σ (g * 47) ≠ 2 → rl (R1 z M B g σ) ((fX5_wipeFile (nI (g + 1)) σ).bind fun σ2 => some σ2) ((fX8_dropRecord (nI (g + 1)) ρ).bind fun σ3 => some σ3) := by
    intro k2
    rw [pm_wf hg, Option.bind_some, pm_drop hg, Option.bind_some]
    have hz := P1_z h (i := g * 47) (j := g * 47 + 47) (by omega)
    have c0 : ∀ w, w < 47 → ck_cells (cz σ (g * 47) (g * 47 + 47)) (g * 47 + w) = 0 := fun w hw => by rw [cz_at, wz_in (by omega) (by omega)]
    refine rl_ret ⟨hz, ⟨⟨0, by omega, c0 0 (by omega)⟩, fun _ => c0, fun _ w _ h2 => c0 w h2, fun k hk => ?_⟩, fun i hi => ?_, fun q => absurd q k2⟩
    · exact Vk_0 (by rw [show g * 47 + 5 + k * 3 + 1 = g * 47 + (5 + k * 3 + 1) by omega]; exact c0 _ (by omega)) (by rw [show g * 47 + 5 + k * 3 + 2 = g * 47 + (5 + k * 3 + 2) by omega]; exact c0 _ (by omega))
    · rw [cz_at, wz_out (by omega)]
  have r0 := rz_rd h.1 (show g * 47 < 1128 by omega)
  have r1 : mk_rd_all ρ (nI (g * 47 + 47) + 1) = some (ck_cells σ (g * 47 + 1)) := by rw [pm_s1]; exact rz_rdE h.1 (by omega) (by omega)
  have n1 : fX5_number (nI (g + 1)) 1 σ = some (ck_cells σ (g * 47 + 1)) := pm_number (w := 1) hg (by omega)
  rw [pm_k0 hg, Option.bind_some, jn_app, pm_mc, r0, Option.bind_some, jn_app, Option.bind_some]
  rcases pk_ix (ck_cells σ (g * 47)) (n := 4) (by decide) with q | q | ⟨j, hj, ej⟩
  · have q1 : ck_cells σ (g * 47) ≤ 0 := Int32.le_of_lt q
    have q2 : ck_cells σ (g * 47) < 1 := Int32.lt_of_le_of_lt q1 (by decide)
    rw [if_pos q1, if_pos q2]
    exact wipe (fun e => absurd (e ▸ q) (by decide))
  · have q1 : ¬ ck_cells σ (g * 47) ≤ 0 := fun e => absurd (Int32.le_trans q e) (by decide)
    have q2 : ¬ ck_cells σ (g * 47) < 1 := fun e => absurd (Int32.lt_of_le_of_lt q e) (by decide)
    have q3 : ¬ ck_cells σ (g * 47) ≤ 3 := fun e => absurd (Int32.le_trans q e) (by decide)
    rw [if_neg q1, if_neg q2, if_neg q3, if_neg q3]
    exact wipe (fun e => absurd (e ▸ q) (by decide))
  · rcases Nat.eq_zero_or_pos j with j0 | j0
    · subst j0
      rw [if_pos (show ck_cells σ (g * 47) ≤ 0 by rw [ej]; decide), if_pos (show ck_cells σ (g * 47) < 1 by rw [ej]; decide)]
      exact wipe (fun e => absurd (ej.symm.trans e) (by decide))
    · rw [ej, if_neg (vge j 0 0), if_neg (vnl j 1 1), if_pos (vle j 3 3), if_pos (vle j 3 3), r1, Option.bind_some, jn_app, jn_app, Option.bind_some]
      dsimp only
      unfold fX4_mendSize
      rw [n1, Option.bind_some, jn_app]
      have bad : rl (R1 z M B g σ) (((fX4_greatestEnd (nI (g + 1)) σ).bind fun v2 => (fX5_putNumber (nI (g + 1)) 1 (1024 * v2) σ).bind fun σ3 => some σ3).bind fun σ5 => (fX4_mendRuns (nI (g + 1)) σ5).bind fun σ6 => if nI j = 2 then some σ6 else (fX5_wipeEntriesFrom (nI (g + 1)) 0 σ6).bind fun σ8 => some σ8)
          ((fX8_greatestEnd (nI (g + 1)) ρ).bind fun v13 => (mk_wr_all ρ (nI (g * 47 + 47) + 1) (1024 * v13)).bind fun σ14 => (fX8_checkRuns (nI (g + 1)) σ14).bind fun σ9 => (mk_rd_all σ9 (nI (g * 47 + 47))).bind fun v10 => if v10 = 2 then some σ9 else (fX8_blank (nI (g * 47 + 47) + 23) (nI (g * 47 + 47) + 47) σ9).bind fun σ12 => some σ12) := by
        obtain ⟨x, y, g1, g2, rfl, e, he, rfl⟩ := ge_rl h.1 hg
        rw [g1, Option.bind_some, g2, Option.bind_some, show (1024 : Int32) = nI 1024 from rfl, pk_mul, show fX5_putNumber (nI (g + 1)) 1 (nI (1024 * e)) σ = _ from pm_putNumber (w := 1) hg (by omega), Option.bind_some, Option.bind_some, pm_s1, pm_mwr (by omega), Option.bind_some]
        have hw := P1_w1 h (i := g * 47 + 1) (v := nI (1024 * e)) (by omega)
        rw [show g * 47 + 1 + 47 = g * 47 + 47 + 1 by omega] at hw
        exact rec_fin hg hw (m := 1024 * e) (by omega) pk_us (by omega) j0 ((pk_un (by omega)).trans ej) (fun i hi => pk_un hi)
      by_cases c1 : ck_cells σ (g * 47 + 1) < 0
      · rw [if_pos c1, if_pos c1]; exact bad
      · rw [if_neg c1, if_neg c1]
        by_cases c2 : ck_cells σ (g * 47 + 1) ≤ 65536
        · rw [if_pos c2, if_pos c2, Option.bind_some]
          obtain ⟨m, hm, em⟩ := nI_of2 (n := 65536) (by rfl) c1 c2
          exact rec_fin hg h hm em (by omega) j0 ej (fun _ _ => rfl)
        · rw [if_neg c2, if_neg c2]; exact bad
def rfx (ρ : mk_S) : mk_S := mz (mw (mw ρ 47 2) 48 0) 52 94
theorem wz_wz {T : Nat → Int32} {i j k : Nat} (h1 : i ≤ j) (h2 : j ≤ k) : wz (wz T i j) j k = wz T i k := by
  funext n
  by_cases a : j ≤ n ∧ n < k
  · rw [wz_in a.1 a.2, wz_in (by omega) a.2]
  · rw [wz_out (by omega)]
    by_cases b : i ≤ n ∧ n < j
    · rw [wz_in b.1 b.2, wz_in (by omega) (by omega)]
    · rw [wz_out (by omega), wz_out (by omega)]
theorem mz_mz {ρ : mk_S} {i j k : Nat} (h1 : i ≤ j) (h2 : j ≤ k) : mz (mz ρ i j) j k = mz ρ i k := by
  show mk_set_all ρ (wz (wz (mk_all ρ) i j) j k) = mk_set_all ρ (wz (mk_all ρ) i k)
  rw [wz_wz h1 h2]
theorem chk_1 {ρ : mk_S} (h : mk_all ρ 47 = 2) : fX8_checkRecord (nI (0 + 1)) ρ = mkr (nI (0 + 1)) ρ := by
  unfold fX8_checkRecord
  rw [jn_app, if_pos (show nI (0 + 1) = 1 from rfl), show mk_rd_all ρ (47 * nI (0 + 1)) = some (mk_all ρ 47) from pm_mrd (j := 47) (by omega), Option.bind_some, if_pos h]; rfl
theorem chk_2 {ρ : mk_S} (h : mk_all ρ 47 ≠ 2) : fX8_checkRecord (nI (0 + 1)) ρ = mkr (nI (0 + 1)) (rfx ρ) := by
  unfold fX8_checkRecord
  rw [jn_app, if_pos (show nI (0 + 1) = 1 from rfl), show mk_rd_all ρ (47 * nI (0 + 1)) = some (mk_all ρ 47) from pm_mrd (j := 47) (by omega), Option.bind_some, if_neg h, show mk_wr_all ρ (47 * nI (0 + 1)) 2 = _ from pm_mwr (j := 47) (by omega), Option.bind_some, show mk_wr_all (mw ρ 47 2) (47 * nI (0 + 1) + 1) 0 = _ from pm_mwr (j := 48) (by omega), Option.bind_some, show fX8_blank (47 * nI (0 + 1) + 5) (47 * nI (0 + 1) + 47) (mw (mw ρ 47 2) 48 0) = _ from pm_mbl (i := 52) (j := 94) (by omega) (by omega), Option.bind_some]; rfl
theorem chk_3 {ρ : mk_S} {g : Nat} (hg : g < 24) (h : 1 ≤ g) : fX8_checkRecord (nI (g + 1)) ρ = mkr (nI (g + 1)) ρ := by
  unfold fX8_checkRecord
  rw [jn_app, if_neg (show ¬ nI (g + 1) = 1 from fun e => by have := (nI_eq (a := g + 1) (b := 1) (by omega) (by omega)).mp e; omega)]; rfl
theorem pm_own {E : mk_S → Option mk_S} {ρ : mk_S} : qp2 FU (fun rec2 (x1 : Int32) (σ2 : mk_S) =>
    if 200 < x1 then (
      E σ2
      ) else (
      (mk_wr_owner σ2 x1 0).bind fun σ8 =>
      rec2 (x1 + 1) σ8
      )
    ) 0 ρ = E (mk_set_owner ρ (wz (mk_owner ρ) 0 201)) := by
  refine Eq.trans (congrArg (fun s => qp2 FU _ (nI 0) s) (show ρ = mk_set_owner ρ (wz (mk_owner ρ) 0 0) by rw [wz_0]; rfl)) ?_
  refine qp2_for (fun k => nI k) (fun k => mk_set_owner ρ (wz (mk_owner ρ) 0 k)) (i := 0) (N := 201) (by omega) (by omega) (fun k h1 h2 rec => ?_) (fun rec => ?_)
  · show (if 200 < nI k then _ else (mk_wr_owner (mk_set_owner ρ (wz (mk_owner ρ) 0 k)) (nI k) 0).bind fun s8 => rec (nI k + 1) s8) = _
    rw [if_neg (unl 200 200 k), mr_w_owner h2, Option.bind_some, pm_s1]
    show rec _ (mk_set_owner ρ (upd (wz (mk_owner ρ) 0 k) k 0)) = _
    rw [wz_s h1]
  · show (if 200 < nI 201 then _ else _) = _
    rw [if_pos (ult 200 200 201)]
def I1 (σ : ck_S) (_ρ : mk_S) : Prop := (∀ g, g < 24 → Ok1 (ck_cells σ) g) ∧ ck_cells σ 0 = 2
theorem loop1 {z M B : Nat → Int32} {σ : ck_S} {ρ : mk_S} (h : ∃ r, fX8_checkRecord (nI (0 + 1)) ρ = mkr (nI (0 + 1)) r ∧ P1 z M B σ r) (h2 : ck_cells σ 0 = 2) : rl (fun σ1 ρ1 => Rz z σ1 ρ1 ∧ ck_memory σ1 = M ∧ mk_before ρ1 = B ∧ I1 σ1 ρ1) (qp2 FU (fun rec24 (x4 : Int32) (σ5 : ck_S) =>
      if 24 < x4 then (
        some σ5
        ) else (
        (fX4_mendRecord x4 σ5).bind fun σ7 =>
        rec24 (x4 + 1) σ7
        )
      ) 1 σ) (qp2 FU (fun rec24 (x4 : Int32) (σ5 : mk_S) =>
        if 24 < x4 then (
          some σ5
          ) else (
          (fX8_checkRecord x4 σ5).bind fun σ7 =>
          rec24 (x4 + 1) σ7
          )
        ) 1 ρ) := by
  refine rl2 (fun k x s y r => x = nI (k + 1) ∧ y = nI (k + 1) ∧ (∃ r1, (k < 24 → fX8_checkRecord (nI (k + 1)) r = mkr (nI (k + 1)) r1) ∧ P1 z M B s r1 ∧ (1 ≤ k → r1 = r)) ∧ (∀ g, g < k → Ok1 (ck_cells s) g) ∧ ck_cells s 0 = 2) (N := 24) (by omega) ?_ (fun k hk x s y r hI rc rm hn => ?_) (fun x s y r hI rc rm => ?_)
  · obtain ⟨r, hr, hP⟩ := h
    exact ⟨rfl, rfl, ⟨r, fun _ => hr, hP, fun q => absurd q (by omega)⟩, fun g q => absurd q (by omega), h2⟩
  · obtain ⟨rfl, rfl, ⟨r1, e1, hP, -⟩, hO, h0⟩ := hI
    rw [if_neg (pm_f2 hk), if_neg (pm_f2 hk), e1 hk]
    refine rl_bd (rec_rl hk hP) (fun s7 r7 h7 => ?_)
    obtain ⟨p7, o7, f7, k7⟩ := h7
    rw [pm_s1]
    refine hn _ _ _ _ ⟨rfl, rfl, ⟨r7, fun q => chk_3 q (by omega), p7, fun _ => rfl⟩, fun g q => ?_, ?_⟩
    · rcases Nat.lt_or_ge g k with c | c
      · exact Ok1_eq (hO g c) (fun i i1 i2 => f7 i (by omega))
      · rw [show g = k by omega]; exact o7
    · rcases Nat.eq_zero_or_pos k with c | c
      · subst c; exact k7 h0
      · rw [f7 0 (by omega)]; exact h0
  · obtain ⟨rfl, rfl, ⟨r1, -, hP, e⟩, hO, h0⟩ := hI
    rw [if_pos (ult 24 24 (24 + 1)), if_pos (ult 24 24 (24 + 1))]
    rw [e (by omega)] at hP
    exact rl_ret ⟨hP.1, hP.2.1, hP.2.2.1, hO, h0⟩
theorem pm_mre {σ : ck_S} : fX4_makeRootEmpty σ = some (cz (cz (cw (cw σ 0 2) 1 0) 5 23) 23 47) := by
  unfold fX4_makeRootEmpty
  rw [show fX5_putNumber 1 0 2 σ = _ from pm_putNumber (g := 0) (w := 0) (by omega) (by omega), Option.bind_some, show fX5_putNumber 1 1 0 (cw σ (0 * 47 + 0) 2) = _ from pm_putNumber (g := 0) (w := 1) (by omega) (by omega), Option.bind_some, show fX5_wipeRunsFrom 1 0 (cw (cw σ (0 * 47 + 0) 2) (0 * 47 + 1) 0) = _ from pm_wrf (g := 0) (p := 0) (by omega) (by omega), Option.bind_some, show fX5_wipeEntriesFrom 1 0 (cz (cw (cw σ (0 * 47 + 0) 2) (0 * 47 + 1) 0) (0 * 47 + 5 + 0 * 3) (0 * 47 + 23)) = _ from pm_wef (g := 0) (p := 0) (by omega) (by omega), Option.bind_some]
theorem P1_rfx {z M B : Nat → Int32} {σ : ck_S} {ρ : mk_S} (h : P1 z M B σ ρ) : P1 z M B (cz (cz (cw (cw σ 0 2) 1 0) 5 23) 23 47) (rfx ρ) := by
  have h1 := P1_z (P1_z (P1_w1 (P1_w1 h (i := 0) (v := 2) (by omega)) (i := 1) (v := 0) (by omega)) (i := 5) (j := 23) (by omega)) (i := 23) (j := 47) (by omega)
  rw [mz_mz (by omega) (by omega)] at h1
  exact h1
theorem pp1 : ps_ok fX4_mend fX8_checkRecords (fun _ _ => True) I1 := by
  refine ps_of (fun z σ ρ M B hR hM hB _ => ?_)
  unfold fX4_mend fX8_checkRecords
  rw [pm_unmark6, Option.bind_some, show fX5_number 1 0 (ck_set_inRuns σ (wz (ck_inRuns σ) 0 201)) = some (ck_cells σ 0) from pm_k0 (g := 0) (by omega), Option.bind_some, pm_own (E := fun σ2 => qp2 FU (fun rec24 (x4 : Int32) (σ5 : mk_S) => if 24 < x4 then some σ5 else (fX8_checkRecord x4 σ5).bind fun σ7 => rec24 (x4 + 1) σ7) 1 σ2)]
  have hP : P1 z M B (ck_set_inRuns σ (wz (ck_inRuns σ) 0 201)) (mk_set_owner ρ (wz (mk_owner ρ) 0 201)) := by
    refine ⟨hR, hM, hB, fun b hb => ?_⟩
    show wz (ck_inRuns σ) 0 201 b = 0 ↔ wz (mk_owner ρ) 0 201 b = 0
    rw [wz_in (by omega) hb, wz_in (by omega) hb]
  have e47 : mk_all ρ 47 = ck_cells σ 0 := by rw [← Rz_r hR (show 0 < 1355 by omega), io1 (by omega)]
  by_cases c : ck_cells σ 0 = 2
  · rw [if_pos c]
    exact loop1 ⟨_, chk_1 (show mk_all ρ 47 = 2 from e47.trans c), hP⟩ c
  · rw [if_neg c, pm_mre, Option.bind_some]
    exact loop1 ⟨_, chk_2 (show mk_all ρ 47 ≠ 2 from fun q => c (e47.symm.trans q)), P1_rfx hP⟩ rfl
theorem sp1 : ps_st I1 := fun _ _ h => h
