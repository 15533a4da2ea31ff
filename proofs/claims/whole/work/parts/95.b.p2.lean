/-! the second pass: folders -/
theorem fi_lo {c : Nat → Int32} {v : Int32} : ∀ d i j, i ≤ j → j < fi c v d i → c j ≠ v := by
  intro d
  induction d with
  | zero => intro i j h1 h2; exact absurd (show j < i from h2) (by omega)
  | succ d ih =>
    intro i j h1 h2
    unfold fi at h2
    by_cases h : c i = v
    · rw [if_pos h] at h2; omega
    · rw [if_neg h] at h2
      rcases Nat.eq_or_lt_of_le h1 with q | q
      · rw [← q]; exact h
      · exact ih (i + 1) j q h2
theorem fi_at {c : Nat → Int32} {v : Int32} : ∀ d i, fi c v d i < i + d → c (fi c v d i) = v := by
  intro d
  induction d with
  | zero => intro i h; exact absurd (show i < i + 0 from h) (by omega)
  | succ d ih =>
    intro i h
    unfold fi at h ⊢
    by_cases q : c i = v
    · rw [if_pos q]; exact q
    · rw [if_neg q] at h ⊢; exact ih (i + 1) (by omega)
theorem rz_ent {z : Nat → Int32} {σ : ck_S} {ρ : mk_S} {g k : Nat} (h : Rz z σ ρ) (hg : g < 24) (hk : k < 8) : mk_rd_all ρ (nI (g * 47 + 70 + k * 3)) = some (en σ g k) ∧ mk_rd_all ρ (nI (g * 47 + 70 + k * 3) + 1) = some (ck_cells σ (g * 47 + 23 + k * 3 + 1)) ∧ mk_rd_all ρ (nI (g * 47 + 70 + k * 3) + 2) = some (ck_cells σ (g * 47 + 23 + k * 3 + 2)) := by
  rw [pm_s1, pm_s2]
  exact ⟨rz_rdE h (by omega) (by omega), rz_rdE h (by omega) (by omega), rz_rdE h (by omega) (by omega)⟩
theorem pm_hasName {z : Nat → Int32} {σ : ck_S} {ρ : mk_S} {g n : Nat} (h : Rz z σ ρ) (hg : g < 24) (hn : n ≤ 8) {v : Int32} : fX8_hasName (nI (g + 1)) (nI n) v ρ = some (if fi (en σ g) v n 0 < n then 1 else 0) := by
  have h10 : ¬ (1 : Int32) = 0 := by decide
  unfold fX8_hasName
  refine Eq.trans (congrArg (fun s => qp2 FU _ s (nI 0)) (show (0 : Int32) = (if fi (en σ g) v n 0 < 0 then 1 else 0) by rw [if_neg (by omega)])) ?_
  refine qp2_for (fun k => if fi (en σ g) v n 0 < k then (1 : Int32) else 0) (fun k => nI k) (i := 0) (N := n) (by omega) (by omega) (fun k h1 h2 rec => ?_) (fun rec => ?_)
  · show (if nI n ≤ nI k then _ else jn (fun (_u : Unit) => rec 1 (nI k + 1)) (fun j32 => if (if fi (en σ g) v n 0 < k then (1 : Int32) else 0) = 0 then (fX8_entryAt (nI (g + 1)) (nI k)).bind fun v5 => (mk_rd_all ρ v5).bind fun v6 => if v6 = v then j32 () else rec 0 (nI k + 1) else j32 ())) = rec (if fi (en σ g) v n 0 < k + 1 then (1 : Int32) else 0) (nI (k + 1))
    rw [if_neg (nI_ge h2 (by omega)), jn_app, pm_entryAt, Option.bind_some, (rz_ent h hg (show k < 8 by omega)).1, Option.bind_some, pm_s1]
    by_cases c : fi (en σ g) v n 0 < k
    · rw [if_pos c, if_neg h10, if_pos (by omega)]
    · rw [if_neg c, if_pos rfl]
      by_cases c2 : en σ g k = v
      · rw [if_pos c2, if_pos]
        rcases Nat.lt_or_ge (fi (en σ g) v n 0) (k + 1) with q | q
        · exact q
        · exact absurd c2 (fi_lo n 0 k (by omega) q)
      · rw [if_neg c2, if_neg]
        intro q
        have e : fi (en σ g) v n 0 = k := by omega
        have := fi_at (c := en σ g) (v := v) n 0 (by omega)
        rw [e] at this
        exact c2 this
  · show (if nI n ≤ nI n then ik_zb (if fi (en σ g) v n 0 < n then 1 else 0) else _) = _
    rw [if_pos (nI_le (Nat.le_refl _) (by omega))]
    by_cases c : fi (en σ g) v n 0 < n
    · rw [if_pos c]; decide
    · rw [if_neg c]; decide
def P2 (z M B : Nat → Int32) (σ : ck_S) (ρ : mk_S) : Prop := Rz z σ ρ ∧ ck_memory σ = M ∧ mk_before ρ = B ∧ ∀ f, f < 25 → mk_reached ρ f = ck_hasEntry σ f
/-- the entry k of the folder g leads to a file that is there -/
def Ek (T : Nat → Int32) (g k : Nat) : Prop := T (g * 47 + 23 + k * 3) ≠ 0 ∧ ∃ h, 1 ≤ h ∧ h < 24 ∧ T (g * 47 + 23 + k * 3 + 1) = nI (h + 1) ∧ T (h * 47) ≠ 0
def E0 (T : Nat → Int32) (g k : Nat) : Prop := T (g * 47 + 23 + k * 3) = 0 ∧ T (g * 47 + 23 + k * 3 + 1) = 0 ∧ T (g * 47 + 23 + k * 3 + 2) = 0
def Ef (T : Nat → Int32) (g : Nat) : Prop := ∃ n, n ≤ 8 ∧ (∀ k, k < n → Ek T g k) ∧ ∀ k, n ≤ k → k < 8 → E0 T g k
theorem Ek_eq {T U : Nat → Int32} {g k : Nat} (h : Ek T g k) (e0 : U (g * 47 + 23 + k * 3) = T (g * 47 + 23 + k * 3)) (e1 : U (g * 47 + 23 + k * 3 + 1) = T (g * 47 + 23 + k * 3 + 1)) (ek : ∀ h, h < 24 → U (h * 47) = T (h * 47)) : Ek U g k := by
  obtain ⟨h1, x, h2, h3, h4, h5⟩ := h
  refine ⟨by rw [e0]; exact h1, x, h2, h3, by rw [e1]; exact h4, by rw [ek x h3]; exact h5⟩
theorem E0_eq {T U : Nat → Int32} {g k : Nat} (h : E0 T g k) (e : ∀ w, w < 3 → U (g * 47 + 23 + k * 3 + w) = T (g * 47 + 23 + k * 3 + w)) : E0 U g k := by
  obtain ⟨h1, h2, h3⟩ := h
  exact ⟨(e 0 (by omega)).trans h1, (e 1 (by omega)).trans h2, (e 2 (by omega)).trans h3⟩
theorem Ef_eq {T U : Nat → Int32} {g : Nat} (h : Ef T g) (e : ∀ i, g * 47 + 23 ≤ i → i < g * 47 + 47 → U i = T i) (ek : ∀ h, h < 24 → U (h * 47) = T (h * 47)) : Ef U g := by
  obtain ⟨n, h1, h2, h3⟩ := h
  exact ⟨n, h1, fun k hk => Ek_eq (h2 k hk) (e _ (by omega) (by omega)) (e _ (by omega) (by omega)) ek, fun k k1 k2 => E0_eq (h3 k k1 k2) (fun w hw => e _ (by omega) (by omega))⟩
theorem P2_w3 {z M B : Nat → Int32} {σ : ck_S} {ρ : mk_S} {i : Nat} {x y w : Int32} (h : P2 z M B σ ρ) (hi : i + 2 < 1128) : P2 z M B (cw3 σ i x y w) (mw3 ρ (i + 47) x y w) := ⟨Rz_w3 h.1 hi, h.2⟩
theorem P2_z {z M B : Nat → Int32} {σ : ck_S} {ρ : mk_S} {i j : Nat} (h : P2 z M B σ ρ) (hj : j ≤ 1128) : P2 z M B (cz σ i j) (mz ρ (i + 47) (j + 47)) := ⟨Rz_z h.1 hj, h.2⟩
theorem P2_m {z M B : Nat → Int32} {σ : ck_S} {ρ : mk_S} {f : Nat} (h : P2 z M B σ ρ) : P2 z M B (ck_set_hasEntry σ (upd (ck_hasEntry σ) f 1)) (mk_set_reached ρ (upd (mk_reached ρ) f 1)) := by
  refine ⟨h.1, h.2.1, h.2.2.1, fun i hi => ?_⟩
  show upd (mk_reached ρ) f 1 i = upd (ck_hasEntry σ) f 1 i
  by_cases q : i = f
  · subst q; rw [pk_us, pk_us]
  · rw [pk_un q, pk_un q]; exact h.2.2.2 i hi
theorem fold_rl {z M B : Nat → Int32} {σ : ck_S} {ρ : mk_S} {g : Nat} {S : ck_S → mk_S → Prop} {Ec : ck_S → Option ck_S} {Em : mk_S → Option mk_S} (hg : g < 24) (h : P2 z M B σ ρ)
    (hE : ∀ s r, P2 z M B s r → (∀ i, i < g * 47 + 23 ∨ g * 47 + 47 ≤ i → ck_cells s i = ck_cells σ i) → Ef (ck_cells s) g → rl S (Ec s) (Em r)) :
    rl S ((fX1_mendFolder (nI (g + 1)) σ).bind Ec) (qp3 FU (fun rec45 (x9 : Int32) (x10 : Int32) (σ11 : mk_S) =>
              if 8 ≤ x10 then (
                (fX8_entryAt (nI (g + 1)) x9).bind fun v13 =>
                (fX8_entryAt (nI (g + 1)) 8).bind fun v14 =>
                (fX8_blank v13 v14 σ11).bind fun σ15 =>
                Em σ15
                ) else (
                (fX8_entryAt (nI (g + 1)) x10).bind fun v16 =>
                (mk_rd_all σ11 v16).bind fun v17 =>
                (mk_rd_all σ11 (v16 + 1)).bind fun v18 =>
                (fX8_isIn v17 1 255).bind fun v19 =>
                jn (fun (y20 : Int32) =>
                  if y20 = 0 then (
                    rec45 x9 (x10 + 1) σ11
                    ) else (
                    (mk_wr_reached σ11 v18 1).bind fun σ22 =>
                    (fX8_entryAt (nI (g + 1)) x9).bind fun v23 =>
                    (fX8_kindOf v18 σ22).bind fun v24 =>
                    (fX8_put v23 v17 v18 v24 σ22).bind fun σ25 =>
                    rec45 (x9 + 1) (x10 + 1) σ25
                    )
                  ) (fun j146 =>
                jn (fun (_u : Unit) =>
                  j146 0
                  ) (fun j145 =>
                if v19 = 0 then (
                  j145 ()
                  ) else (
                  (fX8_hasName (nI (g + 1)) x9 v17 σ11).bind fun v27 =>
                  if v27 = 0 then (
                    (fX8_isIn v18 2 24).bind fun v29 =>
                    if v29 = 0 then (
                      j145 ()
                      ) else (
                      (fX8_kindOf v18 σ11).bind fun v31 =>
                      if v31 = 0 then (
                        j145 ()
                        ) else (
                        (fX8_kindOf v18 σ11).bind fun v33 =>
                        jn (fun (_u : Unit) =>
                          j146 1
                          ) (fun j141 =>
                        if v33 = 2 then (
                          (mk_rd_reached σ11 v18).bind fun v35 =>
                          if v35 = 0 then (
                            j141 ()
                            ) else (
                            j145 ()
                            )
                          ) else (
                          j141 ()
                          )
                        ))
                      )
                    ) else (
                    j145 ()
                    )
                  )
                )))
              ) 0 0 ρ) := by
  have h10 : ¬ (1 : Int32) = 0 := by decide
  unfold fX1_mendFolder
  refine rl3b (fun k x1 x2 s y1 y2 r => ∃ p, p ≤ k ∧ x1 = nI p ∧ y1 = nI p ∧ x2 = nI k ∧ y2 = nI k ∧ P2 z M B s r ∧ (∀ i, i < g * 47 + 23 ∨ g * 47 + 47 ≤ i → ck_cells s i = ck_cells σ i) ∧ ∀ k, k < p → Ek (ck_cells s) g k) (N := 8) (by omega) ⟨0, by omega, rfl, rfl, rfl, rfl, h, fun _ _ => rfl, fun _ q => absurd q (by omega)⟩ (fun k hk x1 x2 s y1 y2 r hI rc rm hn => ?_) (fun x1 x2 s y1 y2 r hI rc rm => ?_)
  · obtain ⟨p, hp, rfl, rfl, rfl, rfl, hP, hF, hV⟩ := hI
    obtain ⟨r0, r1, r2⟩ := rz_ent hP.1 hg hk
    have skip : rl S ((rc (nI p) (nI (k + 1)) s).bind Ec) (rm (nI p) (nI (k + 1)) r) := hn _ _ _ _ _ _ ⟨p, by omega, rfl, rfl, rfl, rfl, hP, hF, hV⟩
    rw [if_neg (uge 8 8 k), if_neg (uge 8 8 k)]
    simp only [pm_ep0 hg hk, pm_ep1 hg hk, pm_entryAt, r0, r1, Option.bind_some, jn]
    simp only [pm_s1]
    unfold fX1_isNameRight
    by_cases c1 : en s g k < 1
    · rw [if_pos c1, pm_isIn0 (Or.inl c1)]
      simp only [Option.bind_some, if_true]
      exact skip
    by_cases c2 : 255 < en s g k
    · rw [if_neg c1, if_pos c2, pm_isIn0 (Or.inr c2)]
      simp only [Option.bind_some, if_true]
      exact skip
    rw [if_neg c1, if_neg c2, pm_isIn1 c1 c2, pm_place hg (by omega), pm_hasName hP.1 hg (by omega)]
    have fle := fi_le (c := en s g) (v := en s g k) p 0
    by_cases c3 : fi (en s g) (en s g k) p 0 < p
    · have c4 : ¬ nI (fi (en s g) (en s g k) p 0) = nI p := fun q => by have := (nI_eq (by omega) (by omega)).mp q; omega
      simp only [Option.bind_some, if_pos c3, if_neg c4, h10, if_true, if_false]
      exact skip
    have c4 : fi (en s g) (en s g k) p 0 = p := by omega
    simp only [Option.bind_some, if_neg c3, c4, h10, if_true, if_false, Nat.lt_irrefl]
    unfold fX1_mayLeadTo
    rcases ix_file (ck_cells s (g * 47 + 23 + k * 3 + 1)) with c5 | ⟨x, hx, ex⟩
    · have c6 : ck_cells s (g * 47 + 23 + k * 3 + 1) < 2 ∨ 24 < ck_cells s (g * 47 + 23 + k * 3 + 1) := c5.imp (fun q => Int32.lt_trans q (by decide)) id
      rw [pm_isFile0 c5, pm_isIn0 c6]
      simp only [Option.bind_some, if_true]
      exact skip
    rw [ex, pm_isFile1 hx]
    rcases Nat.eq_zero_or_pos x with x0 | x0
    · subst x0
      rw [pm_isIn0 (Or.inl (show nI (0 + 1) < 2 by decide))]
      simp only [Option.bind_some, if_true, h10, if_false, show nI (0 + 1) = 1 from rfl]
      exact skip
    have x1 : ¬ nI (x + 1) = 1 := fun q => by have := (nI_eq (a := x + 1) (b := 1) (by omega) (by omega)).mp q; omega
    rw [pm_isIn1 (show ¬ nI (x + 1) < 2 from vnl (x + 1) 2 2) (pm_f2 hx), pm_k0 hx, rz_kind hP.1 hx]
    simp only [Option.bind_some, h10, if_false, x1]
    by_cases c7 : ck_cells s (x * 47) = 0
    · rw [if_pos c7, if_pos c7]
      simp only [Option.bind_some, if_true]
      exact skip
    rw [if_neg c7, if_neg c7]
    have go : rl S (((ck_wr_hasEntry s (nI (x + 1)) 1).bind fun σ12 => (fX5_number (nI (x + 1)) 0 σ12).bind fun v13 => (fX5_putEntry (nI (g + 1)) (nI p) (en s g k) (nI (x + 1)) v13 σ12).bind fun σ14 => rc (nI (p + 1)) (nI (k + 1)) σ14).bind Ec) ((mk_wr_reached r (nI (x + 1)) 1).bind fun σ22 => (fX8_kindOf (nI (x + 1)) σ22).bind fun v24 => (fX8_put (nI (g * 47 + 70 + p * 3)) (en s g k) (nI (x + 1)) v24 σ22).bind fun σ25 => rm (nI (p + 1)) (nI (k + 1)) σ25) := by
      have hm := P2_m (f := x + 1) hP
      rw [cr_w_hasEntry (by omega) (Or.inr rfl), mr_w_reached (by omega) (Or.inr rfl), Option.bind_some, Option.bind_some, pm_k0 hx, Option.bind_some, rz_kind hm.1 hx, Option.bind_some, pm_putEntry hg (by omega), Option.bind_some, pm_put (by omega), Option.bind_some]
      have hw := P2_w3 (x := en s g k) (y := nI (x + 1)) (w := ck_cells (ck_set_hasEntry s (upd (ck_hasEntry s) (x + 1) 1)) (x * 47)) hm (i := g * 47 + 23 + p * 3) (by omega)
      rw [show g * 47 + 23 + p * 3 + 47 = g * 47 + 70 + p * 3 by omega] at hw
      refine hn _ _ _ _ _ _ ⟨p + 1, by omega, rfl, rfl, rfl, rfl, hw, fun i hi => ?_, fun j hj => ?_⟩
      · rw [cw3_ne (by omega)]; exact hF i hi
      · have ek : ∀ h, h < 24 → ck_cells (cw3 (ck_set_hasEntry s (upd (ck_hasEntry s) (x + 1) 1)) (g * 47 + 23 + p * 3) (en s g k) (nI (x + 1)) (ck_cells (ck_set_hasEntry s (upd (ck_hasEntry s) (x + 1) 1)) (x * 47))) (h * 47) = ck_cells s (h * 47) := fun h hh => cw3_ne (by rcases Nat.lt_or_ge g h with q | q <;> omega)
        rcases Nat.lt_or_ge j p with q5 | q5
        · exact Ek_eq (hV j q5) (cw3_ne (by omega)) (cw3_ne (by omega)) ek
        · rw [show j = p by omega]
          refine ⟨?_, x, x0, hx, ?_, ?_⟩
          · rw [cw3_at, if_neg (by omega), if_neg (by omega), if_pos rfl]
            exact fun q => c1 (by rw [q]; decide)
          · rw [cw3_at, if_neg (by omega), if_pos rfl]
          · rw [ek x hx]; exact c7
    by_cases c8 : ck_cells s (x * 47) = 2
    · rw [if_pos c8, if_pos c8, cr_hasEntry (by omega), mr_reached (by omega), hP.2.2.2 _ (by omega), Option.bind_some, Option.bind_some]
      by_cases c9 : ck_hasEntry s (x + 1) = 0
      · rw [if_pos c9, if_pos c9]
        simp only [Option.bind_some, h10, if_false]
        exact go
      · rw [if_neg c9, if_neg c9]
        simp only [Option.bind_some, if_true]
        exact skip
    · rw [if_neg c8, if_neg c8]
      simp only [Option.bind_some, h10, if_false]
      exact go
  · obtain ⟨p, hp, rfl, rfl, rfl, rfl, hP, hF, hV⟩ := hI
    rw [if_pos (ule 8 8 8), if_pos (ule 8 8 8), pm_wef hg hp, Option.bind_some, Option.bind_some, pm_entryAt, Option.bind_some, show fX8_entryAt (nI (g + 1)) 8 = _ from pm_entryAt (k := 8), Option.bind_some, pm_mbl (by omega) (by omega), Option.bind_some]
    have hz := P2_z hP (i := g * 47 + 23 + p * 3) (j := g * 47 + 47) (by omega)
    rw [show g * 47 + 23 + p * 3 + 47 = g * 47 + 70 + p * 3 by omega, show g * 47 + 47 + 47 = g * 47 + 70 + 8 * 3 by omega] at hz
    refine hE _ _ hz (fun i hi => ?_) ⟨p, hp, fun j hj => ?_, fun j j1 j2 => ⟨?_, ?_, ?_⟩⟩
    · rw [cz_at, wz_out (by omega)]; exact hF i hi
    · exact Ek_eq (hV j hj) (by rw [cz_at, wz_out (by omega)]) (by rw [cz_at, wz_out (by omega)]) (fun h hh => by rw [cz_at, wz_out (by omega)])
    · rw [cz_at, wz_in (by omega) (by omega)]
    · rw [cz_at, wz_in (by omega) (by omega)]
    · rw [cz_at, wz_in (by omega) (by omega)]
def I2 (σ : ck_S) (_ρ : mk_S) : Prop := (∀ g, g < 24 → Ok1 (ck_cells σ) g) ∧ ck_cells σ 0 = 2 ∧ ∀ g, g < 24 → Ef (ck_cells σ) g
theorem pm_mreach0 {E : mk_S → Option mk_S} {ρ : mk_S} : qp2 FU (fun rec2 (x1 : Int32) (σ2 : mk_S) =>
    if 24 < x1 then (
      E σ2
      ) else (
      (mk_wr_reached σ2 x1 0).bind fun σ37 =>
      rec2 (x1 + 1) σ37
      )
    ) 0 ρ = E (mk_set_reached ρ (wz (mk_reached ρ) 0 25)) := by
  refine Eq.trans (congrArg (fun s => qp2 FU _ (nI 0) s) (show ρ = mk_set_reached ρ (wz (mk_reached ρ) 0 0) by rw [wz_0]; rfl)) ?_
  refine qp2_for (fun k => nI k) (fun k => mk_set_reached ρ (wz (mk_reached ρ) 0 k)) (i := 0) (N := 25) (by omega) (by omega) (fun k h1 h2 rec => ?_) (fun rec => ?_)
  · show (if 24 < nI k then _ else (mk_wr_reached (mk_set_reached ρ (wz (mk_reached ρ) 0 k)) (nI k) 0).bind fun s8 => rec (nI k + 1) s8) = _
    rw [if_neg (unl 24 24 k), mr_w_reached h2 (Or.inl rfl), Option.bind_some, pm_s1]
    show rec _ (mk_set_reached ρ (upd (wz (mk_reached ρ) 0 k) k 0)) = _
    rw [wz_s h1]
  · show (if 24 < nI 25 then _ else _) = _
    rw [if_pos (ult 24 24 25)]
theorem pp2 : ps_ok fX1_mend fX8_checkFolders I1 I2 := by
  refine ps_of (fun z σ ρ M B hR hM hB hI1 => ?_)
  unfold fX1_mend fX8_checkFolders
  rw [pm_unmark8, Option.bind_some]
  have hP : P2 z M B (ck_set_hasEntry σ (wz (ck_hasEntry σ) 0 25)) (mk_set_reached ρ (wz (mk_reached ρ) 0 25)) := by
    refine ⟨hR, hM, hB, fun b hb => ?_⟩
    show wz (mk_reached ρ) 0 25 b = wz (ck_hasEntry σ) 0 25 b
    rw [wz_in (by omega) hb, wz_in (by omega) hb]
  refine Eq.mpr (congrArg (rl _ _) (pm_mreach0 (E := fun σ2 => _))) ?_
  refine rl2 (fun k x s y r => x = nI (k + 1) ∧ y = nI (k + 1) ∧ P2 z M B s r ∧ (∀ g, g < 24 → Ok1 (ck_cells s) g) ∧ ck_cells s 0 = 2 ∧ ∀ g, g < k → Ef (ck_cells s) g) (N := 24) (by omega) ⟨rfl, rfl, hP, hI1.1, hI1.2, fun g q => absurd q (by omega)⟩ (fun k hk x s y r hI rc rm hn => ?_) (fun x s y r hI rc rm => ?_)
  · obtain ⟨rfl, rfl, hP, hO, h0, hE⟩ := hI
    rw [if_neg (pm_f2 hk), if_neg (pm_f2 hk), pm_k0 hk, Option.bind_some, rz_kind hP.1 hk, Option.bind_some]
    by_cases c : ck_cells s (k * 47) = 2
    · rw [if_pos c, if_pos c]
      refine fold_rl hk hP (fun s7 r7 hP7 hF7 hE7 => ?_)
      rw [pm_s1]
      have ek : ∀ h, h < 24 → ck_cells s7 (h * 47) = ck_cells s (h * 47) := fun h hh => hF7 _ (by omega)
      refine hn _ _ _ _ ⟨rfl, rfl, hP7, fun g hg => ?_, ?_, fun g hg => ?_⟩
      · by_cases q : g = k
        · subst q
          obtain ⟨o1, o2, o3, o4⟩ := hO g hg
          refine ⟨by rw [ek g hg]; exact o1, fun e => ?_, fun e => ?_, fun j hj => Vk_eq (o4 j hj) (hF7 _ (by omega)) (hF7 _ (by omega))⟩
          · rw [ek g hg, c] at e; exact absurd e (by decide)
          · rw [ek g hg] at e; exact absurd c e
        · exact Ok1_eq (hO g hg) (fun i i1 i2 => hF7 i (by omega))
      · rw [show (0 : Nat) = 0 * 47 from rfl, ek 0 (by omega)]; exact h0
      · rcases Nat.lt_or_ge g k with q | q
        · exact Ef_eq (hE g q) (fun i i1 i2 => hF7 i (by omega)) ek
        · rw [show g = k by omega]; exact hE7
    · rw [if_neg c, if_neg c, pm_s1]
      refine hn _ _ _ _ ⟨rfl, rfl, hP, hO, h0, fun g hg => ?_⟩
      rcases Nat.lt_or_ge g k with q | q
      · exact hE g q
      · rw [show g = k by omega]
        obtain ⟨o1, o2, o3, o4⟩ := hO k hk
        refine ⟨0, by omega, fun j hj => absurd hj (by omega), fun j _ j2 => ⟨?_, ?_, ?_⟩⟩
        · rw [show k * 47 + 23 + j * 3 = k * 47 + (23 + j * 3) by omega]; exact o3 c _ (by omega) (by omega)
        · rw [show k * 47 + 23 + j * 3 + 1 = k * 47 + (23 + j * 3 + 1) by omega]; exact o3 c _ (by omega) (by omega)
        · rw [show k * 47 + 23 + j * 3 + 2 = k * 47 + (23 + j * 3 + 2) by omega]; exact o3 c _ (by omega) (by omega)
  · obtain ⟨rfl, rfl, hP, hO, h0, hE⟩ := hI
    rw [if_pos (ult 24 24 (24 + 1)), if_pos (ult 24 24 (24 + 1))]
    exact rl_ret ⟨hP.1, hP.2.1, hP.2.2.1, hO, h0, hE⟩
theorem sp2 : ps_st I2 := fun _ _ h => h
