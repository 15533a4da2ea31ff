/-! the first pass -/
theorem ri_cs (x y w : Int32) : (fX4_isRight x y w = some 0 ∧ fX8_isRight x y w = some 0) ∨ ∃ a n b : Nat, x = nI a ∧ y = nI n ∧ w = nI b ∧ 1 ≤ n ∧ n ≤ 64 ∧ a + n ≤ 64 ∧ 9 ≤ b ∧ b + n ≤ 201 ∧ fX4_isRight x y w = some 1 ∧ fX8_isRight x y w = some 1 := by
  have e9 : (w ≤ 8) = (w < 9) := by
    rw [Int32.lt_iff_toInt_lt, Int32.le_iff_toInt_le, show (8 : Int32).toInt = 8 from rfl, show (9 : Int32).toInt = 9 from rfl]
    exact propext (by omega)
  have e : fX8_isRight x y w = fX4_isRight x y w := by unfold fX8_isRight fX4_isRight; simp only [e9]
  rw [e]
  by_cases h1 : y < 1
  · exact Or.inl (by unfold fX4_isRight; rw [if_pos h1]; exact ⟨rfl, rfl⟩)
  by_cases h2 : 64 < y
  · exact Or.inl (by unfold fX4_isRight; rw [if_neg h1, if_pos h2]; exact ⟨rfl, rfl⟩)
  by_cases h3 : x < 0
  · exact Or.inl (by unfold fX4_isRight; rw [if_neg h1, if_neg h2, if_pos h3]; exact ⟨rfl, rfl⟩)
  by_cases h4 : 64 - y < x
  · exact Or.inl (by unfold fX4_isRight; rw [if_neg h1, if_neg h2, if_neg h3, if_pos h4]; exact ⟨rfl, rfl⟩)
  by_cases h5 : w ≤ 8
  · exact Or.inl (by unfold fX4_isRight; rw [if_neg h1, if_neg h2, if_neg h3, if_neg h4, if_pos h5]; exact ⟨rfl, rfl⟩)
  by_cases h6 : 201 - y < w
  · exact Or.inl (by unfold fX4_isRight; rw [if_neg h1, if_neg h2, if_neg h3, if_neg h4, if_neg h5, if_pos h6]; exact ⟨rfl, rfl⟩)
  refine Or.inr ?_
  have y0 : ¬ y < 0 := fun q => h1 (by rw [Int32.lt_iff_toInt_lt] at q ⊢; rw [show (0 : Int32).toInt = 0 from rfl] at q; rw [show (1 : Int32).toInt = 1 from rfl]; omega)
  have w0 : ¬ w < 0 := fun q => h5 (by rw [Int32.lt_iff_toInt_lt] at q; rw [Int32.le_iff_toInt_le]; rw [show (0 : Int32).toInt = 0 from rfl] at q; rw [show (8 : Int32).toInt = 8 from rfl]; omega)
  obtain ⟨a, ha, rfl⟩ := nI_of h3
  obtain ⟨n, hn, rfl⟩ := nI_of y0
  obtain ⟨b, hb, rfl⟩ := nI_of w0
  have n1 : 1 ≤ n := by
    rcases Nat.eq_zero_or_pos n with q | q
    · subst q; exact absurd (by decide) h1
    · exact q
  have n2 : n ≤ 64 := by
    rcases Nat.lt_or_ge 64 n with q | q
    · exact absurd (ult 64 64 n) h2
    · exact q
  rw [show (64 : Int32) = nI 64 from rfl, pk_sub (by omega)] at h4
  rw [show (201 : Int32) = nI 201 from rfl, pk_sub (by omega)] at h6
  have a1 : a ≤ 64 - n := by
    rcases Nat.lt_or_ge (64 - n) a with q | q
    · exact absurd (nI_lt q ha) h4
    · exact q
  have b1 : 9 ≤ b := by
    rcases Nat.lt_or_ge b 9 with q | q
    · exact absurd (vle b 8 8) h5
    · exact q
  have b2 : b ≤ 201 - n := by
    rcases Nat.lt_or_ge (201 - n) b with q | q
    · exact absurd (nI_lt q hb) h6
    · exact q
  refine ⟨a, n, b, rfl, rfl, rfl, n1, n2, by omega, b1, by omega, ?_⟩
  unfold fX4_isRight
  rw [if_neg h1, if_neg h2, if_neg h3, show (64 : Int32) - nI n = nI (64 - n) from pk_sub n2, if_neg h4, if_neg h5, show (201 : Int32) - nI n = nI (201 - n) from pk_sub (a := 201) (by omega), if_neg h6]
  exact ⟨rfl, rfl⟩
theorem rz_run {z : Nat → Int32} {σ : ck_S} {ρ : mk_S} {g k : Nat} (h : Rz z σ ρ) (hg : g < 24) (hk : k < 6) : mk_rd_all ρ (nI (g * 47 + 52 + k * 3)) = some (ck_cells σ (g * 47 + 5 + k * 3)) ∧ mk_rd_all ρ (nI (g * 47 + 52 + k * 3) + 1) = some (ck_cells σ (g * 47 + 5 + k * 3 + 1)) ∧ mk_rd_all ρ (nI (g * 47 + 52 + k * 3) + 2) = some (ck_cells σ (g * 47 + 5 + k * 3 + 2)) := by
  rw [pm_s1, pm_s2]
  exact ⟨rz_rdE h (by omega) (by omega), rz_rdE h (by omega) (by omega), rz_rdE h (by omega) (by omega)⟩
theorem pm_rp {g k : Nat} (hg : g < 24) (hk : k < 6) {σ : ck_S} : fX5_runPart (nI (g + 1)) (nI k) 0 σ = some (ck_cells σ (g * 47 + 5 + k * 3)) ∧ fX5_runPart (nI (g + 1)) (nI k) 1 σ = some (ck_cells σ (g * 47 + 5 + k * 3 + 1)) ∧ fX5_runPart (nI (g + 1)) (nI k) 2 σ = some (ck_cells σ (g * 47 + 5 + k * 3 + 2)) :=
  ⟨pm_runPart (q := 0) hg hk (by omega), pm_runPart (q := 1) hg hk (by omega), pm_runPart (q := 2) hg hk (by omega)⟩
theorem ge_rl {z : Nat → Int32} {σ : ck_S} {ρ : mk_S} {g : Nat} (h : Rz z σ ρ) (hg : g < 24) : rl (fun a b => a = b ∧ ∃ e : Nat, e ≤ 64 ∧ a = nI e) (fX4_greatestEnd (nI (g + 1)) σ) (fX8_greatestEnd (nI (g + 1)) ρ) := by
  have h10 : ¬ (1 : Int32) = 0 := by decide
  unfold fX4_greatestEnd fX8_greatestEnd
  refine rl2 (fun k x1 x2 y1 y2 => x1 = y1 ∧ x2 = nI k ∧ y2 = nI k ∧ ∃ e : Nat, e ≤ 64 ∧ x1 = nI e) (N := 6) (by omega) ⟨rfl, rfl, rfl, 0, by omega, rfl⟩ (fun k hk x1 x2 y1 y2 hI rc rm hn => ?_) (fun x1 x2 y1 y2 hI rc rm => ?_)
  · obtain ⟨rfl, rfl, rfl, e, he, rfl⟩ := hI
    obtain ⟨r0, r1, r2⟩ := rz_run h hg hk
    obtain ⟨c0, c1, c2⟩ := pm_rp (σ := σ) hg hk
    rw [if_neg (uge 6 6 k), if_neg (uge 6 6 k)]
    simp only [c0, c1, c2, pm_runAt, r0, r1, r2, Option.bind_some]
    rcases ri_cs (ck_cells σ (g * 47 + 5 + k * 3)) (ck_cells σ (g * 47 + 5 + k * 3 + 1)) (ck_cells σ (g * 47 + 5 + k * 3 + 2)) with ⟨q1, q2⟩ | ⟨a, n, b, ea, en, eb, n1, n2, an, b1, bn, q1, q2⟩
    · simp only [q1, q2, Option.bind_some, jn, if_true, pm_s1]
      exact hn _ _ _ _ ⟨rfl, rfl, rfl, e, he, rfl⟩
    · rw [q1, q2]
      simp only [jn, if_false, h10, ea, en, nI_add, Option.bind_some, pm_s1, if_true]
      by_cases c : e < a + n
      · rw [if_pos (nI_lt c (by omega)), if_neg (nI_ge c (by omega))]
        exact hn _ _ _ _ ⟨rfl, rfl, rfl, a + n, by omega, rfl⟩
      · rw [if_neg (nI_nlt (by omega) (by omega)), if_pos (nI_le (by omega) (by omega))]
        exact hn _ _ _ _ ⟨rfl, rfl, rfl, e, he, rfl⟩
  · obtain ⟨rfl, rfl, rfl, e, he, rfl⟩ := hI
    rw [if_pos (ule 6 6 6), if_pos (ule 6 6 6)]
    exact rl_ret ⟨rfl, e, he, rfl⟩
/-- the class's and the reference's marks of blocks -/
def P1 (z M B : Nat → Int32) (σ : ck_S) (ρ : mk_S) : Prop := Rz z σ ρ ∧ ck_memory σ = M ∧ mk_before ρ = B ∧ ∀ b, b < 201 → (ck_inRuns σ b = 0 ↔ mk_owner ρ b = 0)
theorem any_0 {b c : Nat} {σ : ck_S} (hb : b + c ≤ 201) (h : ∀ i, i < c → ck_inRuns σ (b + i) = 0) : fX4_isAnyInRuns (nI b) (nI c) σ = some 0 := by
  unfold fX4_isAnyInRuns
  refine qp1_for (fun k => nI k) (i := 0) (N := c) (by omega) (by omega) (fun k h1 h2 rec => ?_) (fun rec => ?_)
  · show (if nI c ≤ nI k then _ else (ck_rd_inRuns σ (nI b + nI k)).bind fun v3 => if v3 = 0 then _ else _) = _
    rw [if_neg (nI_ge h2 (by omega)), nI_add, cr_inRuns (by omega), Option.bind_some, if_pos (h k h2), pm_s1]
  · show (if nI c ≤ nI c then _ else _) = _
    rw [if_pos (nI_le (Nat.le_refl _) (by omega))]
theorem any_1 {b c i : Nat} {σ : ck_S} (hb : b + c ≤ 201) (hi : i < c) (h : ck_inRuns σ (b + i) ≠ 0) (hl : ∀ j, j < i → ck_inRuns σ (b + j) = 0) : fX4_isAnyInRuns (nI b) (nI c) σ = some 1 := by
  unfold fX4_isAnyInRuns
  refine qp1_for (fun k => nI k) (i := 0) (N := i) (by omega) (by omega) (fun k h1 h2 rec => ?_) (fun rec => ?_)
  · show (if nI c ≤ nI k then _ else (ck_rd_inRuns σ (nI b + nI k)).bind fun v3 => if v3 = 0 then _ else _) = _
    rw [if_neg (nI_ge (by omega) (by omega)), nI_add, cr_inRuns (by omega), Option.bind_some, if_pos (hl k h2), pm_s1]
  · show (if nI c ≤ nI i then _ else (ck_rd_inRuns σ (nI b + nI i)).bind fun v3 => if v3 = 0 then _ else _) = _
    rw [if_neg (nI_ge hi (by omega)), nI_add, cr_inRuns (by omega), Option.bind_some, if_neg h]
theorem fre_1 {b c : Nat} {ρ : mk_S} (hb : b + c ≤ 201) (h : ∀ i, i < c → mk_owner ρ (b + i) = 0) : fX8_isFree (nI b) (nI c) ρ = some 1 := by
  have h10 : ¬ (1 : Int32) = 0 := by decide
  unfold fX8_isFree
  rw [nI_add]
  refine qp2_for (fun _ => (1 : Int32)) (fun k => nI (b + k)) (i := 0) (N := c) (by omega) (by omega) (fun k h1 h2 rec => ?_) (fun rec => ?_)
  · show (if nI (b + c) ≤ nI (b + k) then _ else jn (fun (_u : Unit) => rec 0 (nI (b + k) + 1)) (fun j31 => if (1 : Int32) = 0 then j31 () else (mk_rd_owner ρ (nI (b + k))).bind fun v5 => if v5 = 0 then rec 1 (nI (b + k) + 1) else j31 ())) = _
    rw [if_neg (nI_ge (by omega) (by omega)), jn_app, if_neg h10, mr_owner (by omega), Option.bind_some, if_pos (h k h2), pm_s1]; rfl
  · show (if nI (b + c) ≤ nI (b + c) then ik_zb 1 else _) = _
    rw [if_pos (nI_le (Nat.le_refl _) (by omega))]; decide
theorem fre_0 {b c i : Nat} {ρ : mk_S} (hb : b + c ≤ 201) (hi : i < c) (h : mk_owner ρ (b + i) ≠ 0) (hl : ∀ j, j < i → mk_owner ρ (b + j) = 0) : fX8_isFree (nI b) (nI c) ρ = some 0 := by
  have h10 : ¬ (1 : Int32) = 0 := by decide
  unfold fX8_isFree
  rw [nI_add]
  refine Eq.trans (congrArg (fun s => qp2 FU _ s (nI (b + 0))) (show (1 : Int32) = (if 0 ≤ i then 1 else 0) by rw [if_pos (by omega)])) ?_
  refine qp2_for (fun k => if k ≤ i then (1 : Int32) else 0) (fun k => nI (b + k)) (i := 0) (N := c) (by omega) (by omega) (fun k h1 h2 rec => ?_) (fun rec => ?_)
  · show (if nI (b + c) ≤ nI (b + k) then _ else jn (fun (_u : Unit) => rec 0 (nI (b + k) + 1)) (fun j31 => if (if k ≤ i then (1 : Int32) else 0) = 0 then j31 () else (mk_rd_owner ρ (nI (b + k))).bind fun v5 => if v5 = 0 then rec 1 (nI (b + k) + 1) else j31 ())) = rec (if k + 1 ≤ i then (1 : Int32) else 0) (nI (b + (k + 1)))
    rw [if_neg (nI_ge (by omega) (by omega)), jn_app, mr_owner (by omega), Option.bind_some, pm_s1]
    by_cases c1 : k ≤ i
    · rw [if_pos c1, if_neg h10]
      by_cases c2 : k = i
      · subst c2; rw [if_neg h, if_neg (by omega)]; rfl
      · rw [if_pos (hl k (by omega)), if_pos (by omega)]; rfl
    · rw [if_neg c1, if_pos rfl, if_neg (by omega)]; rfl
  · show (if nI (b + c) ≤ nI (b + c) then ik_zb (if c ≤ i then 1 else 0) else _) = _
    rw [if_pos (nI_le (Nat.le_refl _) (by omega)), if_neg (by omega)]; decide
/-- v in the places a .. a + n - 1 -/
def tv (v : Int32) (T : Nat → Int32) (a n : Nat) : Nat → Int32 := fun k => if a ≤ k ∧ k < a + n then v else T k
theorem tv_0 {v : Int32} {T : Nat → Int32} {a : Nat} : tv v T a 0 = T := by
  funext k; unfold tv; rw [if_neg (by omega)]
theorem tv_s {v : Int32} {T : Nat → Int32} {a k : Nat} : upd (tv v T a k) (a + k) v = tv v T a (k + 1) := by
  funext j
  by_cases hj : j = a + k
  · subst hj; rw [pk_us]; unfold tv; rw [if_pos (by omega)]
  · rw [pk_un hj]; unfold tv
    by_cases c : a ≤ j ∧ j < a + k
    · rw [if_pos c, if_pos (by omega)]
    · rw [if_neg c, if_neg (by omega)]
theorem pm_mark {b c : Nat} {σ : ck_S} (hb : b + c ≤ 201) : fX4_markInRuns (nI b) (nI c) σ = some (ck_set_inRuns σ (tv 1 (ck_inRuns σ) b c)) := by
  unfold fX4_markInRuns
  refine Eq.trans (congrArg (fun s => qp2 FU _ (nI 0) s) (show σ = ck_set_inRuns σ (tv 1 (ck_inRuns σ) b 0) by rw [tv_0]; rfl)) ?_
  refine qp2_for (fun k => nI k) (fun k => ck_set_inRuns σ (tv 1 (ck_inRuns σ) b k)) (i := 0) (N := c) (by omega) (by omega) (fun k h1 h2 rec => ?_) (fun rec => ?_)
  · show (if nI c ≤ nI k then _ else (ck_wr_inRuns (ck_set_inRuns σ (tv 1 (ck_inRuns σ) b k)) (nI b + nI k) 1).bind fun σ4 => _) = _
    rw [if_neg (nI_ge h2 (by omega)), nI_add, cr_w_inRuns (by omega) (Or.inr rfl), Option.bind_some, pm_s1]
    show rec _ (ck_set_inRuns σ (upd (tv 1 (ck_inRuns σ) b k) (b + k) 1)) = _
    rw [tv_s]
  · show (if nI c ≤ nI c then _ else _) = _
    rw [if_pos (nI_le (Nat.le_refl _) (by omega))]
theorem pm_mmark {b c g : Nat} {ρ : mk_S} {e : mk_S → Option mk_S} (hb : b + c ≤ 201) : qp2 FU (fun rec149 (x18 : Int32) (σ19 : mk_S) =>
              if (nI b + nI c) ≤ x18 then (
                e σ19
                ) else (
                (mk_wr_owner σ19 x18 (nI (g + 1))).bind fun σ23 =>
                rec149 (x18 + 1) σ23
                )
              ) (nI b) ρ = e (mk_set_owner ρ (tv (nI (g + 1)) (mk_owner ρ) b c)) := by
  rw [nI_add]
  refine Eq.trans (congrArg (fun s => qp2 FU _ (nI (b + 0)) s) (show ρ = mk_set_owner ρ (tv (nI (g + 1)) (mk_owner ρ) b 0) by rw [tv_0]; rfl)) ?_
  refine qp2_for (fun k => nI (b + k)) (fun k => mk_set_owner ρ (tv (nI (g + 1)) (mk_owner ρ) b k)) (i := 0) (N := c) (by omega) (by omega) (fun k h1 h2 rec => ?_) (fun rec => ?_)
  · show (if nI (b + c) ≤ nI (b + k) then _ else (mk_wr_owner (mk_set_owner ρ (tv (nI (g + 1)) (mk_owner ρ) b k)) (nI (b + k)) (nI (g + 1))).bind fun σ4 => _) = _
    rw [if_neg (nI_ge (by omega) (by omega)), mr_w_owner (by omega), Option.bind_some, pm_s1]
    show rec _ (mk_set_owner ρ (upd (tv (nI (g + 1)) (mk_owner ρ) b k) (b + k) (nI (g + 1)))) = _
    rw [tv_s]; rfl
  · show (if nI (b + c) ≤ nI (b + c) then _ else _) = _
    rw [if_pos (nI_le (Nat.le_refl _) (by omega))]
theorem P1_mark {z M B : Nat → Int32} {σ : ck_S} {ρ : mk_S} {b c g : Nat} (hg : g < 24) (h : P1 z M B σ ρ) : P1 z M B (ck_set_inRuns σ (tv 1 (ck_inRuns σ) b c)) (mk_set_owner ρ (tv (nI (g + 1)) (mk_owner ρ) b c)) := by
  obtain ⟨h1, h2, h3, h4⟩ := h
  refine ⟨h1, h2, h3, fun i hi => ?_⟩
  show tv 1 (ck_inRuns σ) b c i = 0 ↔ tv (nI (g + 1)) (mk_owner ρ) b c i = 0
  unfold tv
  by_cases q : b ≤ i ∧ i < b + c
  · rw [if_pos q, if_pos q]
    exact ⟨fun e => absurd e (by decide), fun e => absurd e (nI_ne0 (by omega) (by omega))⟩
  · rw [if_neg q, if_neg q]; exact h4 i hi
theorem cw3_at {σ : ck_S} {i j : Nat} {x y w : Int32} : ck_cells (cw3 σ i x y w) j = if j = i + 2 then w else if j = i + 1 then y else if j = i then x else ck_cells σ j := rfl
theorem cw3_ne {σ : ck_S} {i j : Nat} {x y w : Int32} (h : j < i ∨ i + 2 < j) : ck_cells (cw3 σ i x y w) j = ck_cells σ j := by
  rw [cw3_at, if_neg (by omega), if_neg (by omega), if_neg (by omega)]
def Vk (T : Nat → Int32) (g k : Nat) : Prop := ∃ a n, T (g * 47 + 5 + k * 3 + 2) = nI a ∧ T (g * 47 + 5 + k * 3 + 1) = nI n ∧ n ≤ 64 ∧ a + n ≤ 201 ∧ (n = 0 ∨ 1 ≤ a)
theorem Vk_eq {T U : Nat → Int32} {g k : Nat} (h : Vk T g k) (e1 : U (g * 47 + 5 + k * 3 + 1) = T (g * 47 + 5 + k * 3 + 1)) (e2 : U (g * 47 + 5 + k * 3 + 2) = T (g * 47 + 5 + k * 3 + 2)) : Vk U g k := by
  unfold Vk
  rw [e1, e2]; exact h
theorem P1_w3 {z M B : Nat → Int32} {σ : ck_S} {ρ : mk_S} {i : Nat} {x y w : Int32} (h : P1 z M B σ ρ) (hi : i + 2 < 1128) : P1 z M B (cw3 σ i x y w) (mw3 ρ (i + 47) x y w) := ⟨Rz_w3 h.1 hi, h.2⟩
theorem P1_w1 {z M B : Nat → Int32} {σ : ck_S} {ρ : mk_S} {i : Nat} {v : Int32} (h : P1 z M B σ ρ) (hi : i < 1128) : P1 z M B (cw σ i v) (mw ρ (i + 47) v) := ⟨Rz_w1 h.1 hi, h.2⟩
theorem P1_z {z M B : Nat → Int32} {σ : ck_S} {ρ : mk_S} {i j : Nat} (h : P1 z M B σ ρ) (hj : j ≤ 1128) : P1 z M B (cz σ i j) (mz ρ (i + 47) (j + 47)) := ⟨Rz_z h.1 hj, h.2⟩
