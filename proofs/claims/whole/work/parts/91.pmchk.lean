/-! check: the reference's rounds, and both checks out of their passes -/
def cpf (ρ : mk_S) (k : Nat) : Nat → Int32 := fun j => if j < k then mk_all ρ j else mk_before ρ j
def cb (ρ : mk_S) : mk_S := mk_set_before ρ (cpf ρ 1429)
theorem cb_at {ρ : mk_S} {j : Nat} (h : j < 1429) : mk_before (cb ρ) j = mk_all ρ j := by
  show (if j < 1429 then mk_all ρ j else mk_before ρ j) = _
  rw [if_pos h]
theorem cpf_0 {ρ : mk_S} : cpf ρ 0 = mk_before ρ := by
  funext j; unfold cpf; rw [if_neg (by omega)]
theorem cpf_s {ρ : mk_S} {k : Nat} : upd (cpf ρ k) k (mk_all ρ k) = cpf ρ (k + 1) := by
  funext j
  by_cases h : j = k
  · subst h; rw [pk_us]; unfold cpf; rw [if_pos (by omega)]
  · rw [pk_un h]; unfold cpf
    by_cases c : j < k
    · rw [if_pos c, if_pos (by omega)]
    · rw [if_neg c, if_neg (by omega)]
theorem mb_id {ρ : mk_S} : mk_set_before ρ (mk_before ρ) = ρ := rfl
theorem mb_rd {ρ : mk_S} {X : Nat → Int32} {k : Nat} (h : k < 1429) : mk_rd_all (mk_set_before ρ X) (nI k) = some (mk_all ρ k) := by
  rw [pm_mrd h]; rfl
theorem mb_wr {ρ : mk_S} {X : Nat → Int32} {k : Nat} {v : Int32} (h : k < 1429) : mk_wr_before (mk_set_before ρ X) (nI k) v = some (mk_set_before ρ (upd X k v)) := by
  show (ik_wr (mk_before (mk_set_before ρ X)) 1429 (nI k) v).map (mk_set_before (mk_set_before ρ X)) = _
  rw [pm_wrN h (by decide)]; rfl
theorem mb_r2 {ρ : mk_S} {k : Nat} (h : k < 1429) : mk_rd_before ρ (nI k) = some (mk_before ρ k) := pm_rdN h (by decide)
def bCmp (rec9 : Int32 → Int32 → mk_S → Option (Int32 × mk_S)) (x2 x3 : Int32) (σ9 : mk_S) (rec51 : Int32 → Int32 → Option (Int32 × mk_S)) (x10 x11 : Int32) : Option (Int32 × mk_S) :=
            if 1429 ≤ x11 then (
              jn (fun (y13 : Int32) =>
                rec9 (x2 + y13) (x3 + 1) σ9
                ) (fun j104 =>
              if x10 = 0 then (
                j104 0
                ) else (
                j104 (1 <<< (x3 &&& 31))
                )
              )) else (
              jn (fun (_u : Unit) =>
                rec51 1 (x11 + 1)
                ) (fun j80 =>
              if x10 = 0 then (
                (mk_rd_before σ9 x11).bind fun v16 =>
                (mk_rd_all σ9 x11).bind fun v17 =>
                if v16 = v17 then (
                  rec51 0 (x11 + 1)
                  ) else (
                  j80 ()
                  )
                ) else (
                j80 ()
                )
              ))
def bCpy (rec9 : Int32 → Int32 → mk_S → Option (Int32 × mk_S)) (x2 x3 : Int32) (rec16 : Int32 → mk_S → Option (Int32 × mk_S)) (x6 : Int32) (σ7 : mk_S) : Option (Int32 × mk_S) :=
        if 1429 ≤ x6 then (
          (fX8_pass x3 σ7).bind fun σ9 =>
          qp2 FU (bCmp rec9 x2 x3 σ9) 0 0
          ) else (
          (mk_rd_all σ7 x6).bind fun v19 =>
          (mk_wr_before σ7 x6 v19).bind fun σ20 =>
          rec16 (x6 + 1) σ20
          )
def bChk (rec9 : Int32 → Int32 → mk_S → Option (Int32 × mk_S)) (x2 x3 : Int32) (σ4 : mk_S) : Option (Int32 × mk_S) :=
    if 5 ≤ x3 then (
      some (x2, σ4)
      ) else (
      qp2 FU (bCpy rec9 x2 x3) 0 σ4
      )
theorem pm_chkM (ρ : mk_S) : fX8_check ρ = qp3 FU bChk 0 0 (mk_set_code ρ 0) := by
  unfold fX8_check
  rw [Option.bind_some]
  rfl
theorem pm_cmp {rec9 : Int32 → Int32 → mk_S → Option (Int32 × mk_S)} {x2 x3 : Int32} {ρ : mk_S} : qp2 FU (bCmp rec9 x2 x3 ρ) 0 0 = rec9 (x2 + (if cn (mk_before ρ) (mk_all ρ) 1429 = 0 then (0 : Int32) else (1 : Int32) <<< (x3 &&& 31))) (x3 + 1) ρ := by
  refine qp2_for (fun k => cn (mk_before ρ) (mk_all ρ) k) (fun k => nI k) (i := 0) (N := 1429) (by omega) (by omega) (fun k h1 h2 rec => ?_) (fun rec => ?_)
  · show bCmp rec9 x2 x3 ρ rec (cn (mk_before ρ) (mk_all ρ) k) (nI k) = rec (cn (mk_before ρ) (mk_all ρ) (k + 1)) (nI (k + 1))
    unfold bCmp
    rw [if_neg (show ¬ (1429 : Int32) ≤ nI k from nI_ge (b := 1429) h2 (by omega)), jn_app, show cn (mk_before ρ) (mk_all ρ) (k + 1) = if cn (mk_before ρ) (mk_all ρ) k = 0 then (if mk_before ρ k = mk_all ρ k then 0 else 1) else 1 from rfl]
    show (if cn (mk_before ρ) (mk_all ρ) k = 0 then _ else rec 1 (nI k + 1)) = _
    by_cases h : cn (mk_before ρ) (mk_all ρ) k = 0
    · rw [if_pos h, if_pos h, mb_r2 h2, Option.bind_some, pm_mrd h2, Option.bind_some, pm_s1]
      by_cases h3 : mk_before ρ k = mk_all ρ k
      · rw [if_pos h3, if_pos h3]
      · rw [if_neg h3, if_neg h3]
    · rw [if_neg h, if_neg h, pm_s1]
  · show bCmp rec9 x2 x3 ρ rec (cn (mk_before ρ) (mk_all ρ) 1429) (nI 1429) = _
    unfold bCmp
    rw [if_pos (show (1429 : Int32) ≤ nI 1429 from nI_le (a := 1429) (by omega) (by omega)), jn_app]
    show (if cn (mk_before ρ) (mk_all ρ) 1429 = 0 then rec9 (x2 + 0) (x3 + 1) ρ else rec9 (x2 + ((1 : Int32) <<< (x3 &&& 31))) (x3 + 1) ρ) = _
    by_cases h : cn (mk_before ρ) (mk_all ρ) 1429 = 0
    · rw [if_pos h, if_pos h]
    · rw [if_neg h, if_neg h]
theorem pm_iter {rec9 : Int32 → Int32 → mk_S → Option (Int32 × mk_S)} {x2 : Int32} {p : Nat} (hp : p < 5) {ρ ρ1 : mk_S} (h : fX8_pass (nI p) (cb ρ) = some ρ1) : bChk rec9 x2 (nI p) ρ = rec9 (x2 + (if cn (mk_before ρ1) (mk_all ρ1) 1429 = 0 then (0 : Int32) else (1 : Int32) <<< (nI p &&& 31))) (nI (p + 1)) ρ1 := by
  unfold bChk
  rw [if_neg (show ¬ (5 : Int32) ≤ nI p from nI_ge (b := 5) hp (by omega))]
  refine Eq.trans (congrArg (fun s => qp2 FU (bCpy rec9 x2 (nI p)) (nI 0) s) (show ρ = mk_set_before ρ (cpf ρ 0) by rw [cpf_0, mb_id])) ?_
  refine qp2_for (fun k => nI k) (fun k => mk_set_before ρ (cpf ρ k)) (i := 0) (N := 1429) (by omega) (by omega) (fun k h1 h2 rec => ?_) (fun rec => ?_)
  · show bCpy rec9 x2 (nI p) rec (nI k) (mk_set_before ρ (cpf ρ k)) = rec (nI (k + 1)) (mk_set_before ρ (cpf ρ (k + 1)))
    unfold bCpy
    rw [if_neg (show ¬ (1429 : Int32) ≤ nI k from nI_ge (b := 1429) h2 (by omega)), mb_rd h2, Option.bind_some, mb_wr h2, Option.bind_some, pm_s1, cpf_s]
  · show bCpy rec9 x2 (nI p) rec (nI 1429) (cb ρ) = _
    unfold bCpy
    rw [if_pos (show (1429 : Int32) ≤ nI 1429 from nI_le (a := 1429) (by omega) (by omega)), h, Option.bind_some, pm_cmp, pm_s1]
/-- the two sides, with what lies outside the tables named -/
def Rz (z : Nat → Int32) (σ : ck_S) (ρ : mk_S) : Prop := mk_all ρ = mA (ck_cells σ) z ∧ (∀ f, f < 25 → mk_held ρ f = ck_held σ f) ∧ (∀ f, f < 25 → ck_held σ f = 0 ∨ ck_held σ f = 1) ∧ ∀ i, 1128 ≤ i → i < 1352 → ck_cells σ i = 0 ∨ ck_cells σ i = 1
theorem Rz_l {z : Nat → Int32} {σ : ck_S} {ρ : mk_S} (h : Rz z σ ρ) : Rl σ ρ := ⟨⟨z, h.1⟩, h.2⟩
/-- a pass: both sides do it, and come out alike -/
def ps_ok (fc : ck_S → Option ck_S) (fm : mk_S → Option mk_S) (I J : ck_S → mk_S → Prop) : Prop :=
  ∀ z σ ρ, Rz z σ ρ → I σ ρ → ∃ σ1 ρ1, fc σ = some σ1 ∧ fm ρ = some ρ1 ∧ Rz z σ1 ρ1 ∧ J σ1 ρ1 ∧ ck_memory σ1 = ck_memory σ ∧ mk_before ρ1 = mk_before ρ
/-- what a pass leaves doesn't speak of the rows that are kept for comparing -/
def ps_st (I : ck_S → mk_S → Prop) : Prop := ∀ σ ρ, I σ ρ → I (cm σ) (cb ρ)
theorem ps_go {fc : ck_S → Option ck_S} {fm : mk_S → Option mk_S} {I J : ck_S → mk_S → Prop} (hp : ps_ok fc fm I J) (hs : ps_st I) {z : Nat → Int32} {σ : ck_S} {ρ : mk_S} (hR : Rz z σ ρ) (hI : I σ ρ) :
    ∃ σ1 ρ1, fc (cm σ) = some σ1 ∧ fm (cb ρ) = some ρ1 ∧ Rz z σ1 ρ1 ∧ J σ1 ρ1 ∧ cn (ck_memory σ1) (ck_cells σ1) 1355 = cn (mk_before ρ1) (mk_all ρ1) 1429 := by
  obtain ⟨σ1, ρ1, h1, h2, h3, h4, h5, h6⟩ := hp z (cm σ) (cb ρ) hR (hs σ ρ hI)
  refine ⟨σ1, ρ1, h1, h2, h3, h4, Eq.symm (Eq.trans (cn_mA (T := ck_cells σ) (U := ck_cells σ1) (z := z) (fun j hj => ?_) (fun j hj => ?_)) (cn_eq ⟨fun h i hi => ?_, fun h i hi => ?_⟩))⟩
  · rw [h6, cb_at hj, hR.1]
  · rw [h3.1]
  · rw [h5, cm_at hi]; exact h i hi
  · have := h i hi
    rw [h5, cm_at hi] at this
    exact this
theorem pm_pass0 {ρ : mk_S} : fX8_pass (nI 0) ρ = fX8_checkRecords ρ := by
  unfold fX8_pass
  rw [if_pos (show nI 0 = 0 from rfl)]
  cases fX8_checkRecords ρ <;> rfl
theorem pm_pass1 {ρ : mk_S} : fX8_pass (nI 1) ρ = fX8_checkFolders ρ := by
  unfold fX8_pass
  rw [if_neg (show ¬ nI 1 = 0 by decide), if_pos (show nI 1 = 1 from rfl)]
  cases fX8_checkFolders ρ <;> rfl
theorem pm_pass2 {ρ : mk_S} : fX8_pass (nI 2) ρ = fX8_checkHanging ρ := by
  unfold fX8_pass
  rw [if_neg (show ¬ nI 2 = 0 by decide), if_neg (show ¬ nI 2 = 1 by decide), if_pos (show nI 2 = 2 from rfl)]
  cases fX8_checkHanging ρ <;> rfl
theorem pm_pass3 {ρ : mk_S} : fX8_pass (nI 3) ρ = fX8_checkLinks ρ := by
  unfold fX8_pass
  rw [if_neg (show ¬ nI 3 = 0 by decide), if_neg (show ¬ nI 3 = 1 by decide), if_neg (show ¬ nI 3 = 2 by decide), if_pos (show nI 3 = 3 from rfl)]
  cases fX8_checkLinks ρ <;> rfl
theorem pm_pass4 {ρ : mk_S} : fX8_pass (nI 4) ρ = fX8_checkBits ρ := by
  unfold fX8_pass
  rw [if_neg (show ¬ nI 4 = 0 by decide), if_neg (show ¬ nI 4 = 1 by decide), if_neg (show ¬ nI 4 = 2 by decide), if_neg (show ¬ nI 4 = 3 by decide)]
  cases fX8_checkBits ρ <;> rfl
theorem qp3_s {A1 A2 A3 ρ : Type} {b : (A1 → A2 → A3 → Option ρ) → A1 → A2 → A3 → Option ρ} {n : Nat} {x : A1} {y : A2} {w : A3} : qp3 (n + 1) b x y w = b (qp3 n b) x y w := rfl
theorem q_check_of {I1 I2 I3 I4 I5 : ck_S → mk_S → Prop} (p1 : ps_ok fX4_mend fX8_checkRecords (fun _ _ => True) I1) (s1 : ps_st I1) (p2 : ps_ok fX1_mend fX8_checkFolders I1 I2) (s2 : ps_st I2) (p3 : ps_ok (fun σ => (fX6_gather σ).bind fX2_mend) fX8_checkHanging I2 I3) (s3 : ps_st I3) (p4 : ps_ok fX3_mend fX8_checkLinks I3 I4) (s4 : ps_st I4) (p5 : ps_ok fX0_mend fX8_checkBits I4 I5) : lm_check Rl := by
  intro σ ρ hR
  obtain ⟨⟨z, hz⟩, hR2⟩ := hR
  have hR0 : Rz z σ (mk_set_code ρ 0) := ⟨hz, hR2⟩
  obtain ⟨σ1, ρ1, a1, b1, c1, d1, e1⟩ := ps_go p1 (fun _ _ _ => trivial) hR0 trivial
  obtain ⟨σ2, ρ2, a2, b2, c2, d2, e2⟩ := ps_go p2 s1 c1 d1
  obtain ⟨σ3, ρ3, a3, b3, c3, d3, e3⟩ := ps_go p3 s2 c2 d2
  obtain ⟨σ4, ρ4, a4, b4, c4, d4, e4⟩ := ps_go p4 s3 c3 d3
  obtain ⟨σ5, ρ5, a5, b5, c5, d5, e5⟩ := ps_go p5 s4 c4 d4
  obtain ⟨σg, ag, a3⟩ := ik_bd a3
  refine ⟨(((((if cn (ck_memory σ1) (ck_cells σ1) 1355 = 0 then (0 : Int32) else 1) + (if cn (ck_memory σ2) (ck_cells σ2) 1355 = 0 then (0 : Int32) else 2)) + (if cn (ck_memory σ3) (ck_cells σ3) 1355 = 0 then (0 : Int32) else 4)) + (if cn (ck_memory σ4) (ck_cells σ4) 1355 = 0 then (0 : Int32) else 8)) + (if cn (ck_memory σ5) (ck_cells σ5) 1355 = 0 then (0 : Int32) else 16)), cm σ5, ρ5, ?_, ?_, Rz_l (show Rz z (cm σ5) ρ5 from c5)⟩
  · unfold fX7_check
    rw [pm_remember, Option.bind_some, a1, Option.bind_some, pm_weight, ik_b2_some, a2, Option.bind_some, pm_weight, ik_b2_some, ag, Option.bind_some, a3, Option.bind_some, pm_weight, ik_b2_some, a4, Option.bind_some, pm_weight, ik_b2_some, a5, Option.bind_some, pm_weight, ik_b2_some]
  · rw [pm_chkM, e1, e2, e3, e4, e5]
    show qp3 (2994 + 6) bChk 0 (nI 0) _ = _
    rw [qp3_s, pm_iter (by omega) (pm_pass0.trans b1), qp3_s, pm_iter (by omega) (pm_pass1.trans b2), qp3_s, pm_iter (by omega) (pm_pass2.trans b3), qp3_s, pm_iter (by omega) (pm_pass3.trans b4), qp3_s, pm_iter (by omega) (pm_pass4.trans b5), qp3_s]
    unfold bChk
    rw [if_pos (show (5 : Int32) ≤ nI (4 + 1) from nI_le (a := 5) (by omega) (by omega))]
    rw [show (1 : Int32) <<< (nI 0 &&& 31) = 1 by decide, show (1 : Int32) <<< (nI 1 &&& 31) = 2 by decide, show (1 : Int32) <<< (nI 2 &&& 31) = 4 by decide, show (1 : Int32) <<< (nI 3 &&& 31) = 8 by decide, show (1 : Int32) <<< (nI 4 &&& 31) = 16 by decide, Int32.zero_add]
