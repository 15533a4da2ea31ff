/-! the fourth pass -/
theorem Rz_set2 {z Y : Nat → Int32} {s : ck_S} {r : mk_S} (h : Rz z s r) (hY : ∀ i, 1128 ≤ i → i < 1352 → Y i = ck_cells s i) : Rz z (ck_set_cells s Y) (mk_set_all r (mA Y z)) := by
  obtain ⟨h1, h2, h3, h4⟩ := h
  exact ⟨rfl, h2, h3, fun i i1 i2 => by show Y i = 0 ∨ Y i = 1; rw [hY i i1 i2]; exact h4 i i1 i2⟩
theorem cA_eq {T U : Nat → Int32} (h : Ag T U) {v : Int32} : ∀ n, n ≤ 24 → cA U v n = cA T v n := by
  intro n
  induction n with
  | zero => intro _; rfl
  | succ n ih =>
    intro q
    show cA U v n + c1 U v n 8 = cA T v n + c1 T v n 8
    rw [ih (by omega), c1_eq 8 (fun j hj => Ag_o h (by omega) hj)]
theorem lp_eq {T U : Nat → Int32} (h : Ag T U) {v : Int32} : ∀ n, n ≤ 24 → lp U v n = lp T v n := by
  intro n
  induction n with
  | zero => intro _; rfl
  | succ n ih =>
    intro q
    show (if c1 U v n 8 = 0 then lp U v n else nI (n + 1)) = if c1 T v n 8 = 0 then lp T v n else nI (n + 1)
    rw [ih (by omega), c1_eq 8 (fun j hj => Ag_o h (by omega) hj)]
theorem pr_eq {T U : Nat → Int32} (h : Ag T U) {g : Nat} (hg : g < 24) : pr U g = pr T g := by
  unfold pr
  rw [Ag_k h hg, lp_eq h 24 (by omega)]
theorem Ag_upd {T U : Nat → Int32} (h : Ag T U) {g w : Nat} {v : Int32} (hg : g < 24) (hw : w = 2 ∨ w = 3 ∨ w = 4) : Ag T (upd U (g * 47 + w) v) := fun i hi => by
  have q := hi g hg
  rw [pk_un (by omega)]; exact h i hi
theorem Ag_hi {T U : Nat → Int32} (h : Ag T U) {i : Nat} (hi : 1128 ≤ i) : U i = T i := h i (fun g hg => by omega)
theorem links_nf {s : ck_S} {g : Nat} (hg : g < 24) (cf : ¬ ck_cells s (g * 47) = 2) : fX3_linksOf (nI (g + 1)) s = some (nI (cA (ck_cells s) (nI (g + 1)) 24)) := by
  unfold fX3_linksOf
  rw [pm_k0 hg, Option.bind_some, if_neg cf, pm_count, Option.bind_some]
theorem cpar_ok {T X : Nat → Int32} {s : ck_S} {W : List Nat} (hS : Sw T) (hA : Ag T X) (h4 : ∀ g, g < 24 → X (g * 47 + 4) = 0) (hC : Lc s W) (hl : W.length ≤ 24) (hW : ∀ g, g ∈ W → g < 24) (hn : W.Nodup) : ok (fun s1 => ∃ Y, s1 = ck_set_cells s (upd (wch W Y) 1354 (whd W)) ∧ (∀ i, (∀ g, g < 24 → i ≠ g * 47 + 4) → Y i = X i) ∧ ∀ g, g < 24 → Y (g * 47 + 4) = pr T g) (
      qp2 FU (fun rec41 (x4 : Int32) (σ5 : ck_S) =>
        if 24 < x4 then (
          (fX5_putNumber 1 4 1 σ5).bind fun σ7 =>
          (fX3_mendWaiting σ7).bind fun σ8 =>
          some σ8
          ) else (
          (fX3_becomeParent x4 σ5).bind fun σ9 =>
          rec41 (x4 + 1) σ9
          )
        ) 1 (ck_set_cells s X)) := by
  refine ok2 (fun h x s1 => x = nI (h + 1) ∧ ∃ Y, s1 = ck_set_cells s Y ∧ Ag T Y ∧ (∀ i, (∀ g, g < 24 → i ≠ g * 47 + 4) → Y i = X i) ∧ ∀ g, g < 24 → Y (g * 47 + 4) = if T (g * 47) = 2 then lp T (nI (g + 1)) h else 0) (N := 24) (by omega) ⟨rfl, X, rfl, hA, fun _ _ => rfl, fun g hg => ?_⟩ (fun h hh x s1 hI rc hn2 => ?_) (fun x s1 hI rc => ?_)
  · rw [h4 g hg]
    by_cases c : T (g * 47) = 2
    · rw [if_pos c]; rfl
    · rw [if_neg c]
  · obtain ⟨rfl, Y, rfl, aY, y1, y2⟩ := hI
    rw [if_neg (pm_f2 hh)]
    refine ok_bd (parent_ok hS aY hh) (fun s2 h2 => ?_)
    obtain ⟨U, rfl, u1, u2⟩ := h2
    rw [pm_s1]
    refine hn2 _ _ ⟨rfl, U, rfl, fun i hi => ?_, fun i hi => (u1 i hi).trans (y1 i hi), fun g hg => ?_⟩
    · rw [u1 i (fun g hg => (hi g hg).2.2)]; exact aY i hi
    · rw [u2 g hg, y2 g hg, show lp T (nI (g + 1)) (h + 1) = if c1 T (nI (g + 1)) h 8 = 0 then lp T (nI (g + 1)) h else nI (h + 1) from rfl]
      by_cases c : T (g * 47) = 2
      · by_cases d : c1 T (nI (g + 1)) h 8 = 0
        · rw [if_neg (fun q => q.2 d), if_pos c, if_pos c, if_pos d]
        · rw [if_pos ⟨c, d⟩, if_pos c, if_neg d]
      · rw [if_neg (fun q => c q.1), if_neg c, if_neg c]
  · obtain ⟨rfl, Y, rfl, aY, y1, y2⟩ := hI
    rw [if_pos (ult 24 24 (24 + 1)), show fX5_putNumber 1 4 1 (ck_set_cells s Y) = some (ck_set_cells s (upd Y 4 1)) from cwn (g := 0) (w := 4) (by omega) (by omega), Option.bind_some]
    refine ok_bd (mwait_ok hC hl hW hn) (fun s2 h2 => ok_ret ⟨upd Y 4 1, h2, fun i hi => ?_, fun g hg => ?_⟩)
    · rw [pk_un (by have := hi 0 (by omega); omega)]; exact y1 i hi
    · unfold pr
      by_cases g0 : g = 0
      · subst g0
        rw [if_pos rfl]; exact pk_us
      · rw [if_neg g0, pk_un (by omega), y2 g hg]
theorem pp4 : ps_ok fX3_mend fX8_checkLinks I3 (fun σ _ => Vr (ck_cells σ)) := by
  refine ps_of (fun z σ ρ M B hR hM hB hI => ?_)
  obtain ⟨hX, L, P, hL, hC, hP⟩ := hI
  have hS := Sw_of hX
  have e0 : ρ = mk_set_all ρ (mA (ck_cells σ) z) := by rw [← hR.1]; rfl
  unfold fX3_mend fX8_checkLinks
  refine rl2 (fun k x s y r => x = nI (k + 1) ∧ y = nI (k + 1) ∧ ∃ X Y, s = ck_set_cells σ X ∧ r = mk_set_all ρ (mA Y z) ∧ Ag (ck_cells σ) Y ∧ (∀ i, (∀ g, g < 24 → i ≠ g * 47 + 4) → X i = Y i) ∧ ∀ g, g < k → X (g * 47 + 4) = 0 ∧ Y (g * 47 + 4) = pr (ck_cells σ) g) (N := 24) (by omega) ⟨rfl, rfl, ck_cells σ, ck_cells σ, rfl, e0, fun _ _ => rfl, fun _ _ => rfl, fun g hg => absurd hg (by omega)⟩ (fun k hk x s y r hI rc rm hn => ?_) (fun x s y r hI rc rm => ?_)
  · obtain ⟨rfl, rfl, X, Y, rfl, rfl, hA, hXY, h4⟩ := hI
    have RY : Rz z (ck_set_cells σ Y) (mk_set_all ρ (mA Y z)) := Rz_set hR (fun i hi => Ag_hi hA hi)
    have SY : Sw Y := Sw_ag hS hA
    have AX : Ag Y X := fun i hi => hXY i (fun g hg => (hi g hg).2.2)
    have fin : ∀ v, rl (fun σ1 ρ1 => Rz z σ1 ρ1 ∧ ck_memory σ1 = M ∧ mk_before ρ1 = B ∧ Vr (ck_cells σ1)) (
      (fX5_putNumber (nI (k + 1)) 2 v (ck_set_cells σ X)).bind fun σ11 =>
      (fX5_putNumber (nI (k + 1)) 4 0 σ11).bind fun σ12 =>
      (fX5_putNumber (nI (k + 1)) 3 0 σ12).bind fun σ13 =>
      rc (nI (k + 1) + 1) σ13) (
        (mk_wr_all (mk_set_all ρ (mA Y z)) ((47 * nI (k + 1)) + 2) v).bind fun σ17 =>
        (mk_wr_all σ17 ((47 * nI (k + 1)) + 3) 0).bind fun σ18 =>
        (fX8_parentOf (nI (k + 1)) σ18).bind fun v19 =>
        (mk_wr_all σ18 ((47 * nI (k + 1)) + 4) v19).bind fun σ20 =>
        rm (nI (k + 1) + 1) σ20) := by
      intro v
      have A2 : Ag (ck_cells σ) (upd (upd Y (k * 47 + 2) v) (k * 47 + 3) 0) := Ag_upd (Ag_upd hA hk (Or.inl rfl)) hk (Or.inr (Or.inl rfl))
      have R2 : Rz z (ck_set_cells σ (upd (upd Y (k * 47 + 2) v) (k * 47 + 3) 0)) (mk_set_all ρ (mA (upd (upd Y (k * 47 + 2) v) (k * 47 + 3) 0) z)) := Rz_set hR (fun i hi => Ag_hi A2 hi)
      rw [show fX5_putNumber (nI (k + 1)) 2 v (ck_set_cells σ X) = _ from cwn (w := 2) hk (by omega), Option.bind_some, show ∀ X, fX5_putNumber (nI (k + 1)) 4 0 (ck_set_cells σ X) = _ from fun X => cwn (w := 4) hk (by omega), Option.bind_some, show ∀ X, fX5_putNumber (nI (k + 1)) 3 0 (ck_set_cells σ X) = _ from fun X => cwn (w := 3) hk (by omega), Option.bind_some]
      rw [show mk_wr_all (mk_set_all ρ (mA Y z)) (47 * nI (k + 1) + 2) v = _ from mwn (w := 2) hk (by omega), Option.bind_some, show ∀ Y, mk_wr_all (mk_set_all ρ (mA Y z)) (47 * nI (k + 1) + 3) 0 = _ from fun Y => mwn (w := 3) hk (by omega), Option.bind_some, pm_parent R2 (Sw_ag hS A2) hk, Option.bind_some, show ∀ Y v, mk_wr_all (mk_set_all ρ (mA Y z)) (47 * nI (k + 1) + 4) v = _ from fun Y v => mwn (w := 4) hk (by omega), Option.bind_some, pm_s1]
      rw [show pr (ck_cells (ck_set_cells σ (upd (upd Y (k * 47 + 2) v) (k * 47 + 3) 0))) k = pr (ck_cells σ) k from pr_eq A2 hk]
      refine hn _ _ _ _ ⟨rfl, rfl, _, _, rfl, rfl, Ag_upd A2 hk (Or.inr (Or.inr rfl)), fun i hi => ?_, fun g hg => ?_⟩
      · have i4 := hi k hk
        rw [pk_un i4]
        by_cases c3 : i = k * 47 + 3
        · subst c3; rw [pk_us, pk_us]
        · rw [pk_un c3, pk_un c3, pk_un i4]
          by_cases c2 : i = k * 47 + 2
          · subst c2; rw [pk_us, pk_us]
          · rw [pk_un c2, pk_un c2]; exact hXY i hi
      · rcases Nat.lt_or_ge g k with c | c
        · rw [pk_un (by omega), pk_un (by omega), pk_un (by omega), pk_un (by omega), pk_un (by omega), pk_un (by omega)]
          exact h4 g c
        · have e : g = k := by omega
          subst e
          rw [pk_un (by omega), pk_us, pk_us]
          exact ⟨rfl, rfl⟩
    rw [if_neg (pm_f2 hk), if_neg (pm_f2 hk), rz_kind RY hk, Option.bind_some, jn_app]
    by_cases cf : Y (k * 47) = 2
    · rw [if_pos (show ck_cells (ck_set_cells σ Y) (k * 47) = 2 from cf)]
      refine rl_bd (fold_cnt (σ := ck_set_cells σ Y) (σ' := ck_set_cells σ X) RY SY AX hk cf) (fun a b hab => ?_)
      rw [hab]
      exact fin (2 + b)
    · rw [if_neg (show ¬ ck_cells (ck_set_cells σ Y) (k * 47) = 2 from cf), links_nf (s := ck_set_cells σ X) hk (show ¬ X (k * 47) = 2 from fun q => cf ((Ag_k AX hk).symm.trans q)), Option.bind_some, pm_leadW RY SY hk, Option.bind_some]
      rw [show cA (ck_cells (ck_set_cells σ X)) (nI (k + 1)) 24 = cA (ck_cells (ck_set_cells σ Y)) (nI (k + 1)) 24 from cA_eq AX 24 (by omega)]
      exact fin _
  · obtain ⟨rfl, rfl, X, Y, rfl, rfl, hA, hXY, h4⟩ := hI
    rw [if_pos (ult 24 24 (24 + 1)), if_pos (ult 24 24 (24 + 1))]
    have AX : Ag (ck_cells σ) X := fun i hi => (hXY i (fun g hg => (hi g hg).2.2)).trans (hA i hi)
    have fl : (L.filter P).length ≤ 24 := Nat.le_trans (List.length_filter_le P L) hL.2.2.1
    have fm : ∀ g, g ∈ L.filter P → g < 24 := fun g hg => hL.1 g (List.mem_filter.mp hg).1
    refine ok_rl (cpar_ok hS AX (fun g hg => (h4 g hg).1) hC fl fm (List.Pairwise.sublist List.filter_sublist hL.2.1)) (mchain_ok hL hP) (fun s1 r1 h1 h2 => ?_)
    obtain ⟨U, rfl, u1, u2⟩ := h1
    have eU : U = Y := by
      funext i
      by_cases c : ∃ g, g < 24 ∧ i = g * 47 + 4
      · obtain ⟨g, hg, rfl⟩ := c
        rw [u2 g hg, (h4 g hg).2]
      · have q : ∀ g, g < 24 → i ≠ g * 47 + 4 := fun g hg e => c ⟨g, hg, e⟩
        rw [u1 i q, hXY i q]
    rw [h2, eU]
    have at_ : ∀ i, i ≠ 1354 → (∀ g, g < 24 → i ≠ g * 47 + 2 ∧ i ≠ g * 47 + 3 ∧ i ≠ g * 47 + 4) → upd (wch (L.filter P) Y) 1354 (whd (L.filter P)) i = ck_cells σ i := fun i i1 i2 => by
      rw [pk_un i1, wch_at _ (fun g hg => (i2 g (fm g hg)).2.1)]; exact hA i i2
    refine ⟨Rz_set2 hR (fun i i1 i2 => at_ i (by omega) (fun g hg => by omega)), hM, hB, fun g hg k hk => ?_⟩
    have e : ∀ w, 5 ≤ w → w < 23 → upd (wch (L.filter P) Y) 1354 (whd (L.filter P)) (g * 47 + w) = ck_cells σ (g * 47 + w) := fun w w1 w2 => at_ _ (by omega) (fun y _ => by rcases Nat.lt_or_ge g y with q | q <;> refine ⟨?_, ?_, ?_⟩ <;> omega)
    obtain ⟨a, n, v1, v2, v3⟩ := (hX.1 g hg).2.2.2 k hk
    refine ⟨a, n, ?_, ?_, v3⟩
    · show upd (wch (L.filter P) Y) 1354 (whd (L.filter P)) (g * 47 + 5 + k * 3 + 2) = nI a
      rw [← v1, show g * 47 + 5 + k * 3 + 2 = g * 47 + (5 + k * 3 + 2) by omega]; exact e _ (by omega) (by omega)
    · show upd (wch (L.filter P) Y) 1354 (whd (L.filter P)) (g * 47 + 5 + k * 3 + 1) = nI n
      rw [← v2, show g * 47 + 5 + k * 3 + 1 = g * 47 + (5 + k * 3 + 1) by omega]; exact e _ (by omega) (by omega)
theorem sp4 : ps_st (fun σ _ => Vr (ck_cells σ)) := fun _ _ h => h
