/-! the waiting list, as both sides gather it -/
def wpb (T hl : Nat → Int32) (g : Nat) : Bool := decide (T (g * 47) ≠ 0) && (decide (T (g * 47) ≠ 2) && (decide (T (g * 47 + 2) = 0) && (decide (cA T (nI (g + 1)) 24 = 0) && decide (hl (g + 1) ≠ 0))))
theorem wpb_iff {T hl : Nat → Int32} {g : Nat} : wpb T hl g = true ↔ mwt T g ∧ hl (g + 1) ≠ 0 := by
  unfold wpb mwt
  rw [Bool.and_eq_true, Bool.and_eq_true, Bool.and_eq_true, Bool.and_eq_true, decide_eq_true_iff, decide_eq_true_iff, decide_eq_true_iff, decide_eq_true_iff, decide_eq_true_iff, cA_0]
  exact ⟨fun ⟨a, b, c, d, e⟩ => ⟨⟨a, b, c, d⟩, e⟩, fun ⟨⟨a, b, c, d⟩, e⟩ => ⟨a, b, c, d, e⟩⟩
def wl2 (rec105 : Int32 → mk_S → Option mk_S) (x10 : Int32) (σ11 : mk_S) : Option mk_S :=
            if (mk_listSize σ11) ≤ x10 then (
              some σ11
              ) else (
              (mk_rd_list σ11 x10).bind fun v13 =>
              (mk_wr_goesOn σ11 v13 0).bind fun σ14 =>
              (fX8_kindOf v13 σ14).bind fun v15 =>
              (fX8_isIn v15 1 3).bind fun v16 =>
              jn (fun (y17 : Int32) =>
                (mk_wr_rightly σ14 v13 y17).bind fun σ18 =>
                rec105 (x10 + 1) σ18
                ) (fun j181 =>
              jn (fun (_u : Unit) =>
                j181 0
                ) (fun j180 =>
              if v16 = 0 then (
                j180 ()
                ) else (
                (fX8_kindOf v13 σ14).bind fun v20 =>
                if v20 = 2 then (
                  j180 ()
                  ) else (
                  (mk_rd_all σ14 ((47 * v13) + 2)).bind fun v22 =>
                  if v22 = 0 then (
                    (fX8_leading v13 σ14).bind fun v24 =>
                    if v24 = 0 then (
                      j181 1
                      ) else (
                      j180 ()
                      )
                    ) else (
                    j180 ()
                    )
                  )
                )
              )))
theorem wl2_s {z : Nat → Int32} {s : ck_S} {r : mk_S} {rec : Int32 → mk_S → Option mk_S} {i g n : Nat} (hR : Rz z s r) (hS : Sx (ck_cells s)) (hn : mk_listSize r = nI n) (hi : i < n) (hn2 : n ≤ 24) (hg : g < 24) (hl : mk_list r i = nI (g + 1)) :
    (mwt (ck_cells s) g ∧ wl2 rec (nI i) r = rec (nI (i + 1)) (mk_set_rightly (mk_set_goesOn r (upd (mk_goesOn r) (g + 1) 0)) (upd (mk_rightly r) (g + 1) 1))) ∨ (¬ mwt (ck_cells s) g ∧ wl2 rec (nI i) r = rec (nI (i + 1)) (mk_set_rightly (mk_set_goesOn r (upd (mk_goesOn r) (g + 1) 0)) (upd (mk_rightly r) (g + 1) 0))) := by
  have h10 : ¬ (1 : Int32) = 0 := by decide
  have hR2 : Rz z s (mk_set_goesOn r (upd (mk_goesOn r) (g + 1) 0)) := hR
  have wr : ∀ v : Int32, v = 0 ∨ v = 1 → ((mk_wr_rightly (mk_set_goesOn r (upd (mk_goesOn r) (g + 1) 0)) (nI (g + 1)) v).bind fun σ18 => rec (nI i + 1) σ18) = rec (nI (i + 1)) (mk_set_rightly (mk_set_goesOn r (upd (mk_goesOn r) (g + 1) 0)) (upd (mk_rightly r) (g + 1) v)) := fun v hv => by
    rw [mr_w_rightly (by omega) hv, Option.bind_some, pm_s1]; rfl
  have e2 : mk_rd_all (mk_set_goesOn r (upd (mk_goesOn r) (g + 1) 0)) (nI (g * 47 + 47) + 2) = some (ck_cells s (g * 47 + 2)) := by rw [pm_s2]; exact rz_rdE hR2 (by omega) (by omega)
  unfold wl2
  rw [hn, if_neg (nI_ge hi (by omega)), mr_list (by omega), Option.bind_some, hl, mr_w_goesOn (by omega) (Or.inl rfl), Option.bind_some, rz_kind hR2 hg, Option.bind_some, pm_leading hR2 hS hg, pm_mc, e2]
  unfold mwt
  rw [← cA_z]
  obtain ⟨j, hj, ej⟩ := (hS.1 g hg).1
  rcases Nat.eq_zero_or_pos j with j0 | j0
  · subst j0
    rw [ej, pm_isIn0 (Or.inl (show nI 0 < 1 by decide))]
    simp only [Option.bind_some, jn, if_true]
    exact Or.inr ⟨fun q => q.1 rfl, wr 0 (Or.inl rfl)⟩
  · have n0 : ck_cells s (g * 47) ≠ 0 := by rw [ej]; exact nI_ne0 (by omega) (by omega)
    rw [show fX8_isIn (ck_cells s (g * 47)) 1 3 = some 1 by rw [ej]; exact pm_isIn1 (vnl j 1 1) (unl 3 3 j)]
    simp only [Option.bind_some, jn, h10, if_false]
    by_cases c2 : ck_cells s (g * 47) = 2
    · rw [if_pos c2]; exact Or.inr ⟨fun q => q.2.1 c2, wr 0 (Or.inl rfl)⟩
    rw [if_neg c2]
    by_cases c3 : ck_cells s (g * 47 + 2) = 0
    · rw [if_pos c3]
      by_cases c4 : nI (cA (ck_cells s) (nI (g + 1)) 24) = 0
      · rw [if_pos c4]; exact Or.inl ⟨⟨n0, c2, c3, c4⟩, wr 1 (Or.inr rfl)⟩
      · rw [if_neg c4]; exact Or.inr ⟨fun q => c4 q.2.2.2, wr 0 (Or.inl rfl)⟩
    · rw [if_neg c3]; exact Or.inr ⟨fun q => c3 q.2.2.1, wr 0 (Or.inl rfl)⟩
/-- the reference's list -/
def Ls (ρ : mk_S) (L : List Nat) : Prop := (∀ g, g ∈ L → g < 24) ∧ L.Nodup ∧ L.length ≤ 24 ∧ mk_listSize ρ = nI L.length ∧ ∀ i g, L[i]? = some g → mk_list ρ i = nI (g + 1)
/-- the class's list -/
def Lc (σ : ck_S) (W : List Nat) : Prop := ck_count σ = nI W.length ∧ ∀ i g, W[i]? = some g → ck_waitOn σ i = nI (g + 1)
theorem wl2_ok {z : Nat → Int32} {s : ck_S} {r : mk_S} {L : List Nat} (hR : Rz z s r) (hS : Sx (ck_cells s)) (hL : Ls r L) (h0 : ∀ f, f < 25 → mk_rightly r f = 0) (hgo : ∀ g, g < 24 → g ∉ L → mk_goesOn r (g + 1) = 0) (hg0 : mk_goesOn r 0 = 0) :
    ok (fun r1 => Rz z s r1 ∧ mk_before r1 = mk_before r ∧ Ls r1 L ∧ mk_rightly r1 0 = 0 ∧ (∀ g, g < 24 → (g ∈ L ∧ mwt (ck_cells s) g → mk_rightly r1 (g + 1) = 1) ∧ (¬ (g ∈ L ∧ mwt (ck_cells s) g) → mk_rightly r1 (g + 1) = 0)) ∧ ∀ f, f < 25 → mk_goesOn r1 f = 0) (qp2 FU wl2 0 r) := by
  refine ok2 (fun i x r1 => x = nI i ∧ i ≤ L.length ∧ Rz z s r1 ∧ mk_before r1 = mk_before r ∧ Ls r1 L ∧ mk_rightly r1 0 = 0 ∧ mk_goesOn r1 0 = 0 ∧ (∀ g, g < 24 → ((∃ j, j < i ∧ L[j]? = some g) ∧ mwt (ck_cells s) g → mk_rightly r1 (g + 1) = 1) ∧ (¬ ((∃ j, j < i ∧ L[j]? = some g) ∧ mwt (ck_cells s) g) → mk_rightly r1 (g + 1) = 0)) ∧ ∀ g, g < 24 → (g ∉ L ∨ ∃ j, j < i ∧ L[j]? = some g) → mk_goesOn r1 (g + 1) = 0) (N := L.length) (by have := hL.2.2.1; omega) ?_ (fun i hi x r1 hI rc hn => ?_) (fun x r1 hI rc => ?_)
  · refine ⟨rfl, by omega, hR, rfl, hL, h0 0 (by omega), hg0, fun g hg => ⟨fun ⟨⟨j, hj, _⟩, _⟩ => absurd hj (by omega), fun _ => h0 _ (by omega)⟩, fun g hg q => ?_⟩
    rcases q with q | ⟨j, hj, -⟩
    · exact hgo g hg q
    · omega
  · obtain ⟨rfl, -, hR1, hb, hL1, hr0, hg0, hri, hgo⟩ := hI
    obtain ⟨g, eg⟩ : ∃ g, L[i]? = some g := ⟨L[i], List.getElem?_eq_getElem hi⟩
    have gL : g ∈ L := List.mem_of_getElem? eg
    have hg : g < 24 := hL.1 g gL
    have key : ∀ v : Int32, (mwt (ck_cells s) g ∧ v = 1) ∨ (¬ mwt (ck_cells s) g ∧ v = 0) → ok (fun r1 => Rz z s r1 ∧ mk_before r1 = mk_before r ∧ Ls r1 L ∧ mk_rightly r1 0 = 0 ∧ (∀ g, g < 24 → (g ∈ L ∧ mwt (ck_cells s) g → mk_rightly r1 (g + 1) = 1) ∧ (¬ (g ∈ L ∧ mwt (ck_cells s) g) → mk_rightly r1 (g + 1) = 0)) ∧ ∀ f, f < 25 → mk_goesOn r1 f = 0) (rc (nI (i + 1)) (mk_set_rightly (mk_set_goesOn r1 (upd (mk_goesOn r1) (g + 1) 0)) (upd (mk_rightly r1) (g + 1) v))) := by
      intro v hv
      refine hn _ _ ⟨rfl, hi, hR1, hb, hL1, ?_, ?_, fun x hx => ?_, fun x hx q => ?_⟩
      · show upd (mk_rightly r1) (g + 1) v 0 = 0
        rw [pk_un (by omega)]; exact hr0
      · show upd (mk_goesOn r1) (g + 1) 0 0 = 0
        rw [pk_un (by omega)]; exact hg0
      · show (_ → upd (mk_rightly r1) (g + 1) v (x + 1) = 1) ∧ (_ → upd (mk_rightly r1) (g + 1) v (x + 1) = 0)
        by_cases q : x = g
        · subst q
          rw [pk_us]
          refine ⟨fun q => ?_, fun q => ?_⟩
          · rcases hv with ⟨-, e⟩ | ⟨a, -⟩
            · exact e
            · exact absurd q.2 a
          · rcases hv with ⟨a, -⟩ | ⟨-, e⟩
            · exact absurd ⟨⟨i, by omega, eg⟩, a⟩ q
            · exact e
        · rw [pk_un (by omega)]
          refine ⟨fun ⟨⟨j, hj, ej⟩, b⟩ => (hri x hx).1 ⟨⟨j, ?_, ej⟩, b⟩, fun a => (hri x hx).2 (fun ⟨⟨j, hj, ej⟩, b⟩ => a ⟨⟨j, by omega, ej⟩, b⟩)⟩
          rcases Nat.lt_or_ge j i with c | c
          · exact c
          · rw [show j = i by omega, eg] at ej
            exact absurd (Option.some.inj ej).symm q
      · show upd (mk_goesOn r1) (g + 1) 0 (x + 1) = 0
        by_cases q2 : x = g
        · subst q2; rw [pk_us]
        · rw [pk_un (by omega)]
          refine hgo x hx (q.imp id ?_)
          rintro ⟨j, hj, ej⟩
          refine ⟨j, ?_, ej⟩
          rcases Nat.lt_or_ge j i with c | c
          · exact c
          · rw [show j = i by omega, eg] at ej
            exact absurd (Option.some.inj ej).symm q2
    rcases wl2_s (rec := rc) hR1 hS hL1.2.2.2.1 hi hL.2.2.1 hg (hL1.2.2.2.2 i g eg) with ⟨a, b⟩ | ⟨a, b⟩
    · rw [b]; exact key 1 (Or.inl ⟨a, rfl⟩)
    · rw [b]; exact key 0 (Or.inr ⟨a, rfl⟩)
  · obtain ⟨rfl, -, hR1, hb, hL1, hr0, hg0, hri, hgo⟩ := hI
    unfold wl2
    rw [hL1.2.2.2.1, if_pos (nI_le (Nat.le_refl _) (by have := hL.2.2.1; omega))]
    have mem : ∀ g, g ∈ L → ∃ j, j < L.length ∧ L[j]? = some g := fun g hg => by
      obtain ⟨j, hj⟩ := List.mem_iff_getElem?.mp hg
      exact ⟨j, (List.getElem?_eq_some_iff.mp hj).1, hj⟩
    refine ok_ret ⟨hR1, hb, hL1, hr0, fun g hg => ⟨fun q => (hri g hg).1 ⟨mem g q.1, q.2⟩, fun q => (hri g hg).2 (fun ⟨⟨j, _, ej⟩, b⟩ => q ⟨List.mem_of_getElem? ej, b⟩)⟩, fun f hf => ?_⟩
    cases f with
    | zero => exact hg0
    | succ g =>
      by_cases c : g ∈ L
      · exact hgo g (by omega) (Or.inr (mem g c))
      · exact hgo g (by omega) (Or.inl c)
