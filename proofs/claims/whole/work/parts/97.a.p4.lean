/-! the fourth pass: counts of names, parents -/
def Sw (T : Nat → Int32) : Prop := T 0 = 2 ∧ (∀ g, g < 24 → T (g * 47) ≠ 2 → ∀ k, k < 8 → E0 T g k) ∧ ∀ g, g < 24 → ∀ k, k < 8 → Ek T g k ∨ E0 T g k
theorem Sw_of {T : Nat → Int32} (h : Sx T) : Sw T := ⟨h.2.1, fun _ hg c _ hk => Sx_nf h hg hk c, fun _ hg _ hk => Sx_cs h hg hk⟩
/-- the same but for what the pass writes -/
def Ag (T U : Nat → Int32) : Prop := ∀ i, (∀ g, g < 24 → i ≠ g * 47 + 2 ∧ i ≠ g * 47 + 3 ∧ i ≠ g * 47 + 4) → U i = T i
theorem Ag_k {T U : Nat → Int32} (h : Ag T U) {g : Nat} (hg : g < 24) : U (g * 47) = T (g * 47) := h _ (fun y _ => by rcases Nat.lt_or_ge g y with q | q <;> refine ⟨?_, ?_, ?_⟩ <;> omega)
theorem Ag_w {T U : Nat → Int32} (h : Ag T U) {g w : Nat} (hg : g < 24) (h1 : 5 ≤ w) (h2 : w < 47) : U (g * 47 + w) = T (g * 47 + w) := h _ (fun y _ => by rcases Nat.lt_or_ge g y with q | q <;> refine ⟨?_, ?_, ?_⟩ <;> omega)
theorem Ag_o {T U : Nat → Int32} (h : Ag T U) {g k : Nat} (hg : g < 24) (hk : k < 8) : U (g * 47 + 23 + k * 3 + 1) = T (g * 47 + 23 + k * 3 + 1) := by
  rw [show g * 47 + 23 + k * 3 + 1 = g * 47 + (23 + k * 3 + 1) by omega]; exact Ag_w h hg (by omega) (by omega)
theorem Sw_ag {T U : Nat → Int32} (hS : Sw T) (h : Ag T U) : Sw U := by
  have e : ∀ g, g < 24 → ∀ k, k < 8 → ∀ w, w < 3 → U (g * 47 + 23 + k * 3 + w) = T (g * 47 + 23 + k * 3 + w) := fun g hg k hk w hw => by
    rw [show g * 47 + 23 + k * 3 + w = g * 47 + (23 + k * 3 + w) by omega]; exact Ag_w h hg (by omega) (by omega)
  refine ⟨(Ag_k h (g := 0) (by omega)).trans hS.1, fun g hg c k hk => ?_, fun g hg k hk => ?_⟩
  · rw [Ag_k h hg] at c
    exact E0_eq (hS.2.1 g hg c k hk) (e g hg k hk)
  · rcases hS.2.2 g hg k hk with q | q
    · exact Or.inl (Ek_eq q (e g hg k hk 0 (by omega)) (e g hg k hk 1 (by omega)) (fun y hy => Ag_k h hy))
    · exact Or.inr (E0_eq q (e g hg k hk))
theorem c1_eq {T U : Nat → Int32} {v : Int32} {h : Nat} : ∀ k, (∀ j, j < k → U (h * 47 + 23 + j * 3 + 1) = T (h * 47 + 23 + j * 3 + 1)) → c1 U v h k = c1 T v h k := by
  intro k
  induction k with
  | zero => intro _; rfl
  | succ k ih =>
    intro q
    rw [c1_s, c1_s, q k (by omega), ih (fun j hj => q j (by omega))]
theorem pm_leadW {z : Nat → Int32} {σ : ck_S} {ρ : mk_S} (hR : Rz z σ ρ) (hS : Sw (ck_cells σ)) {p : Nat} (hp : p < 24) : fX8_leading (nI (p + 1)) ρ = some (nI (cA (ck_cells σ) (nI (p + 1)) 24)) := by
  have p0 : ¬ nI (p + 1) = 0 := nI_ne0 (by omega) (by omega)
  unfold fX8_leading
  refine qp2_for (fun h => nI (cA (ck_cells σ) (nI (p + 1)) h)) (fun h => nI (h + 1)) (i := 0) (N := 24) (by omega) (by omega) (fun h h1 hh rec => ?_) (fun rec => ?_)
  · show (if 24 < nI (h + 1) then _ else qp2 FU _ (nI (cA (ck_cells σ) (nI (p + 1)) h + c1 (ck_cells σ) (nI (p + 1)) h 0)) (nI 0)) = rec (nI (cA (ck_cells σ) (nI (p + 1)) h + c1 (ck_cells σ) (nI (p + 1)) h 8)) (nI (h + 1 + 1))
    rw [if_neg (pm_f2 hh)]
    by_cases cf : ck_cells σ (h * 47) = 2
    · refine qp2_for (fun k => nI (cA (ck_cells σ) (nI (p + 1)) h + c1 (ck_cells σ) (nI (p + 1)) h k)) (fun k => nI k) (i := 0) (N := 8) (by omega) (by omega) (fun k k1 kk rec2 => ?_) (fun rec2 => ?_)
      · obtain ⟨r0, r1, -⟩ := rz_ent hR hh kk
        simp only [pm_entryAt, Option.bind_some, r0, r1, rz_kind hR hh, if_neg (uge 8 8 k), if_pos cf, jn]
        rw [pm_s1, c1_s]
        rcases hS.2.2 h hh k kk with ⟨e0, x, x1, x2, e1, e2⟩ | ⟨e0, e1, -⟩
        · rw [if_neg (show ¬ en σ h k = 0 from e0)]
          by_cases c : ck_cells σ (h * 47 + 23 + k * 3 + 1) = nI (p + 1)
          · rw [if_pos c, if_pos c, pm_s1]; rfl
          · rw [if_neg c, if_neg c, Int32.add_zero]
        · rw [if_pos (show en σ h k = 0 from e0), if_neg (show ¬ ck_cells σ (h * 47 + 23 + k * 3 + 1) = nI (p + 1) from fun q => p0 (q.symm.trans e1)), Int32.add_zero]
      · simp only [if_pos (ule 8 8 8), pm_s1]
    · have e : c1 (ck_cells σ) (nI (p + 1)) h 8 = 0 := (c1_0 8).mpr (fun j hj q => p0 (q.symm.trans (hS.2.1 h hh cf j hj).2.1))
      rw [e]
      refine qp2_for (fun _ => nI (cA (ck_cells σ) (nI (p + 1)) h + c1 (ck_cells σ) (nI (p + 1)) h 0)) (fun k => nI k) (i := 0) (N := 0) (by omega) (by omega) (fun k k1 kk => absurd kk (by omega)) (fun rec2 => ?_)
      simp only [if_neg (uge 8 8 0), rz_kind hR hh, Option.bind_some, if_neg cf, pm_s1]; rfl
  · show (if 24 < nI 25 then _ else _) = _
    rw [if_pos (ult 24 24 25)]
theorem isF_1 {σ : ck_S} {x : Nat} (hx : x < 24) : fX3_isFolder (nI (x + 1)) σ = some (if ck_cells σ (x * 47) = 2 then 1 else 0) := by
  have h10 : ¬ (1 : Int32) = 0 := by decide
  unfold fX3_isFolder
  rw [pm_isFile1 hx, Option.bind_some, if_neg h10, pm_k0 hx, Option.bind_some]
  split <;> rfl
theorem isF_0 {σ : ck_S} : fX3_isFolder 0 σ = some 0 := by
  unfold fX3_isFolder
  rw [pm_isFile0 (Or.inl (by decide)), Option.bind_some, if_pos rfl]
theorem fold_cnt {z : Nat → Int32} {σ σ' : ck_S} {ρ : mk_S} (hR : Rz z σ ρ) (hS : Sw (ck_cells σ)) (hA : Ag (ck_cells σ) (ck_cells σ')) {g : Nat} (hg : g < 24) (cf : ck_cells σ (g * 47) = 2) : rl (fun a b => a = 2 + b) (fX3_linksOf (nI (g + 1)) σ') (fX8_foldersIn (nI (g + 1)) ρ) := by
  have h10 : ¬ (1 : Int32) = 0 := by decide
  unfold fX3_linksOf fX8_foldersIn
  rw [pm_k0 hg, Option.bind_some, if_pos ((Ag_k hA hg).trans cf)]
  refine rl2 (fun k a x b y => a = 2 + b ∧ x = nI k ∧ y = nI k) (N := 8) (by omega) ⟨by decide, rfl, rfl⟩ (fun k hk a x b y hI rc rm hn => ?_) (fun a x b y hI rc rm => ?_)
  · obtain ⟨rfl, rfl, rfl⟩ := hI
    obtain ⟨r0, r1, -⟩ := rz_ent hR hg hk
    rw [if_neg (uge 8 8 k), if_neg (uge 8 8 k), pm_ep1 hg hk, Option.bind_some, Ag_o hA hg hk]
    simp only [pm_entryAt, Option.bind_some, r0, r1, jn]
    rw [pm_s1]
    rcases hS.2.2 g hg k hk with ⟨e0, x, x1, x2, e1, e2⟩ | ⟨e0, e1, -⟩
    · rw [if_neg (show ¬ en σ g k = 0 from e0), e1, isF_1 x2, Option.bind_some, Ag_k hA x2, rz_kind hR x2, Option.bind_some]
      by_cases c : ck_cells σ (x * 47) = 2
      · rw [if_pos c, if_pos c, if_neg h10]
        exact hn _ _ _ _ ⟨Int32.add_assoc 2 b 1, rfl, rfl⟩
      · rw [if_neg c, if_neg c, if_pos rfl]
        exact hn _ _ _ _ ⟨by rw [Int32.add_zero], rfl, rfl⟩
    · rw [if_pos (show en σ g k = 0 from e0), e1, isF_0, Option.bind_some, if_pos rfl]
      exact hn _ _ _ _ ⟨by rw [Int32.add_zero], rfl, rfl⟩
  · obtain ⟨rfl, rfl, rfl⟩ := hI
    rw [if_pos (ule 8 8 8), if_pos (ule 8 8 8)]
    exact rl_ret rfl
/-- the last of the first h folders that leads to v -/
def lp (T : Nat → Int32) (v : Int32) : Nat → Int32
  | 0 => 0
  | h + 1 => if c1 T v h 8 = 0 then lp T v h else nI (h + 1)
def lpk (T : Nat → Int32) (v : Int32) (h k : Nat) : Int32 := if c1 T v h k = 0 then lp T v h else nI (h + 1)
def pr (T : Nat → Int32) (g : Nat) : Int32 := if g = 0 then 1 else if T (g * 47) = 2 then lp T (nI (g + 1)) 24 else 0
theorem lpk_s {T : Nat → Int32} {v : Int32} {h k : Nat} : lpk T v h (k + 1) = if T (h * 47 + 23 + k * 3 + 1) = v then nI (h + 1) else lpk T v h k := by
  unfold lpk
  rw [c1_s]
  by_cases c : T (h * 47 + 23 + k * 3 + 1) = v
  · rw [if_pos c, if_pos c, if_neg (by omega)]
  · rw [if_neg c, if_neg c]
theorem pm_parent {z : Nat → Int32} {σ : ck_S} {ρ : mk_S} (hR : Rz z σ ρ) (hS : Sw (ck_cells σ)) {g : Nat} (hg : g < 24) : fX8_parentOf (nI (g + 1)) ρ = some (pr (ck_cells σ) g) := by
  have h10 : ¬ (1 : Int32) = 0 := by decide
  have p0 : ¬ nI (g + 1) = 0 := nI_ne0 (by omega) (by omega)
  unfold fX8_parentOf pr
  by_cases g0 : g = 0
  · subst g0
    have k2 : fX8_kindOf (nI (0 + 1)) ρ = some 2 := by rw [rz_kind hR hg]; exact congrArg some hS.1
    rw [if_pos (show nI (0 + 1) = 1 from rfl), if_pos rfl]
    refine qp2_for (fun _ => (1 : Int32)) (fun h => nI (h + 1)) (i := 0) (N := 24) (by omega) (by omega) (fun h h1 hh rec => ?_) (fun rec => ?_)
    · rw [if_neg (pm_f2 hh), k2, Option.bind_some, if_pos rfl]
      refine qp2_for (fun _ => (1 : Int32)) (fun k => nI k) (i := 0) (N := 8) (by omega) (by omega) (fun k k1 kk rec2 => ?_) (fun rec2 => ?_)
      · obtain ⟨r0, r1, -⟩ := rz_ent hR hh kk
        simp only [pm_entryAt, Option.bind_some, r0, r1, if_neg (uge 8 8 k), jn]
        rw [pm_s1]
        rcases hS.2.2 h hh k kk with ⟨e0, x, x1, x2, e1, e2⟩ | ⟨e0, e1, -⟩
        · rw [if_neg (show ¬ en σ h k = 0 from e0), e1, if_neg (show ¬ nI (x + 1) = nI (0 + 1) from fun q => by have := (nI_eq (by omega) (by omega)).mp q; omega), if_pos trivial]
        · rw [if_pos (show en σ h k = 0 from e0), if_pos trivial]
      · simp only [if_pos (ule 8 8 8), pm_s1]
    · simp only [if_pos (ult 24 24 (24 + 1))]
  · have g1 : ¬ nI (g + 1) = 1 := fun q => by have := (nI_eq (a := g + 1) (b := 1) (by omega) (by omega)).mp q; omega
    rw [if_neg g1, if_neg g0]
    by_cases cf : ck_cells σ (g * 47) = 2
    · rw [if_pos cf]
      refine qp2_for (fun h => lp (ck_cells σ) (nI (g + 1)) h) (fun h => nI (h + 1)) (i := 0) (N := 24) (by omega) (by omega) (fun h h1 hh rec => ?_) (fun rec => ?_)
      · rw [if_neg (pm_f2 hh), rz_kind hR hg, Option.bind_some, if_pos cf]
        refine (show qp2 FU _ (lpk (ck_cells σ) (nI (g + 1)) h 0) (nI 0) = rec (lpk (ck_cells σ) (nI (g + 1)) h 8) (nI (h + 1 + 1)) from ?_)
        refine qp2_for (fun k => lpk (ck_cells σ) (nI (g + 1)) h k) (fun k => nI k) (i := 0) (N := 8) (by omega) (by omega) (fun k k1 kk rec2 => ?_) (fun rec2 => ?_)
        · obtain ⟨r0, r1, -⟩ := rz_ent hR hh kk
          simp only [pm_entryAt, Option.bind_some, r0, r1, if_neg (uge 8 8 k), jn]
          rw [pm_s1, lpk_s]
          rcases hS.2.2 h hh k kk with ⟨e0, x, x1, x2, e1, e2⟩ | ⟨e0, e1, -⟩
          · rw [if_neg (show ¬ en σ h k = 0 from e0)]
            by_cases c : ck_cells σ (h * 47 + 23 + k * 3 + 1) = nI (g + 1)
            · rw [if_pos c, if_pos c, if_neg h10]
            · rw [if_neg c, if_neg c, if_pos trivial]
          · rw [if_pos (show en σ h k = 0 from e0), if_pos trivial, if_neg (show ¬ ck_cells σ (h * 47 + 23 + k * 3 + 1) = nI (g + 1) from fun q => p0 (q.symm.trans e1))]
        · simp only [if_pos (ule 8 8 8), pm_s1]
      · simp only [if_pos (ult 24 24 (24 + 1))]
    · rw [if_neg cf]
      refine qp2_for (fun _ => (0 : Int32)) (fun h => nI (h + 1)) (i := 0) (N := 0) (by omega) (by omega) (fun h h1 hh => absurd hh (by omega)) (fun rec => ?_)
      simp only [if_neg (pm_f2 (g := 0) (by omega)), rz_kind hR hg, Option.bind_some, if_neg cf]
/-- the folder h becomes the parent of the folders in it -/
theorem parent_ok {T X : Nat → Int32} {s : ck_S} {h : Nat} (hS : Sw T) (hA : Ag T X) (hh : h < 24) : ok (fun s1 => ∃ Y, s1 = ck_set_cells s Y ∧ (∀ i, (∀ g, g < 24 → i ≠ g * 47 + 4) → Y i = X i) ∧ ∀ g, g < 24 → Y (g * 47 + 4) = if T (g * 47) = 2 ∧ c1 T (nI (g + 1)) h 8 ≠ 0 then nI (h + 1) else X (g * 47 + 4)) (fX3_becomeParent (nI (h + 1)) (ck_set_cells s X)) := by
  have h10 : ¬ (1 : Int32) = 0 := by decide
  unfold fX3_becomeParent
  refine ok2 (fun e x s1 => x = nI e ∧ ∃ Y, s1 = ck_set_cells s Y ∧ (∀ i, (∀ g, g < 24 → i ≠ g * 47 + 4) → Y i = X i) ∧ ∀ g, g < 24 → Y (g * 47 + 4) = if T (g * 47) = 2 ∧ c1 T (nI (g + 1)) h e ≠ 0 then nI (h + 1) else X (g * 47 + 4)) (N := 8) (by omega) ⟨rfl, X, rfl, fun _ _ => rfl, fun g hg => by rw [if_neg (fun q => q.2 rfl)]⟩ (fun e he x s1 hI rc hn => ?_) (fun x s1 hI rc => ?_)
  · obtain ⟨rfl, Y, rfl, y1, y2⟩ := hI
    have ho : Y (h * 47 + 23 + e * 3 + 1) = T (h * 47 + 23 + e * 3 + 1) := by
      rw [y1 _ (fun g hg => by rcases Nat.lt_or_ge g h with q | q <;> omega)]; exact Ag_o hA hh he
    have hk : ∀ g, g < 24 → Y (g * 47) = T (g * 47) := fun g hg => by
      rw [y1 _ (fun y hy => by rcases Nat.lt_or_ge y g with q | q <;> omega)]; exact Ag_k hA hg
    rw [if_neg (uge 8 8 e), pm_ep1 hh he, Option.bind_some, show ck_cells (ck_set_cells s Y) (h * 47 + 23 + e * 3 + 1) = T (h * 47 + 23 + e * 3 + 1) from ho]
    have no : (∀ g, g < 24 → T (g * 47) = 2 → T (h * 47 + 23 + e * 3 + 1) ≠ nI (g + 1)) → ok (fun s1 => ∃ Y, s1 = ck_set_cells s Y ∧ (∀ i, (∀ g, g < 24 → i ≠ g * 47 + 4) → Y i = X i) ∧ ∀ g, g < 24 → Y (g * 47 + 4) = if T (g * 47) = 2 ∧ c1 T (nI (g + 1)) h 8 ≠ 0 then nI (h + 1) else X (g * 47 + 4)) (rc (nI e + 1) (ck_set_cells s Y)) := fun q => by
      rw [pm_s1]
      refine hn _ _ ⟨rfl, Y, rfl, y1, fun g hg => ?_⟩
      rw [y2 g hg, c1_s]
      by_cases c : T (g * 47) = 2
      · rw [if_neg (q g hg c)]
      · rw [if_neg (fun a => c a.1), if_neg (fun a => c a.1)]
    rcases hS.2.2 h hh e he with ⟨e0, x, x1, x2, e1, e2⟩ | ⟨e0, e1, -⟩
    · rw [e1, isF_1 x2, Option.bind_some, show ck_cells (ck_set_cells s Y) (x * 47) = T (x * 47) from hk x x2]
      by_cases c : T (x * 47) = 2
      · rw [if_pos c, if_neg h10, show fX5_putNumber (nI (x + 1)) 4 (nI (h + 1)) (ck_set_cells s Y) = _ from pm_putNumber (w := 4) x2 (by omega), Option.bind_some, cw_cs, pm_s1]
        refine hn _ _ ⟨rfl, _, rfl, fun i hi => ?_, fun g hg => ?_⟩
        · rw [pk_un (hi x x2)]; exact y1 i hi
        · rw [c1_s, e1]
          by_cases q : g = x
          · subst q
            rw [pk_us, if_pos rfl, if_pos ⟨c, by omega⟩]
          · rw [pk_un (by omega), y2 g hg, if_neg (show ¬ nI (x + 1) = nI (g + 1) from fun a => by have := (nI_eq (by omega) (by omega)).mp a; omega)]
      · rw [if_neg c, if_pos rfl]
        refine no (fun g hg cg a => ?_)
        rw [e1] at a
        have : x = g := by have := (nI_eq (by omega) (by omega)).mp a; omega
        rw [this] at c
        exact c cg
    · rw [e1, isF_0, Option.bind_some, if_pos rfl]
      exact no (fun g hg _ a => nI_ne0 (n := g + 1) (by omega) (by omega) (e1.symm.trans a).symm)
  · obtain ⟨rfl, Y, rfl, y1, y2⟩ := hI
    rw [if_pos (ule 8 8 8)]
    exact ok_ret ⟨Y, rfl, y1, y2⟩
