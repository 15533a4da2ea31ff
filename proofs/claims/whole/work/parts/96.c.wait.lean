/-! the waiting list: the chain -/
theorem rl32 {A1 A2 A3 B1 B2 α β : Type} {S : α → β → Prop} {b : (A1 → A2 → A3 → Option α) → A1 → A2 → A3 → Option α} {c : (B1 → B2 → Option β) → B1 → B2 → Option β} (I : Nat → A1 → A2 → A3 → B1 → B2 → Prop) {N : Nat} (hN : N < 3000) {x1 : A1} {x2 : A2} {x3 : A3} {y1 : B1} {y2 : B2} (h0 : I 0 x1 x2 x3 y1 y2)
    (hs : ∀ k, k < N → ∀ x1 x2 x3 y1 y2, I k x1 x2 x3 y1 y2 → ∀ r s, (∀ u1 u2 u3 w1 w2, I (k + 1) u1 u2 u3 w1 w2 → rl S (r u1 u2 u3) (s w1 w2)) → rl S (b r x1 x2 x3) (c s y1 y2))
    (he : ∀ x1 x2 x3 y1 y2, I N x1 x2 x3 y1 y2 → ∀ r s, rl S (b r x1 x2 x3) (c s y1 y2)) : rl S (qp3 FU b x1 x2 x3) (qp2 FU c y1 y2) := by
  have key : ∀ (d n m k : Nat), k + d = N → d < n → d < m → ∀ x1 x2 x3 y1 y2, I k x1 x2 x3 y1 y2 → rl S (qp3 n b x1 x2 x3) (qp2 m c y1 y2) := by
    intro d
    induction d with
    | zero => intro n m k h1 h2 h3 x1 x2 x3 y1 y2 h; cases n with
      | zero => omega
      | succ n => cases m with
        | zero => omega
        | succ m => rw [show k = N by omega] at h; exact he x1 x2 x3 y1 y2 h _ _
    | succ d ih => intro n m k h1 h2 h3 x1 x2 x3 y1 y2 h; cases n with
      | zero => omega
      | succ n => cases m with
        | zero => omega
        | succ m => exact hs k (by omega) x1 x2 x3 y1 y2 h _ _ (ih n m (k + 1) (by omega) (by omega) (by omega))
  exact key N 3000 3000 0 (by omega) hN hN x1 x2 x3 y1 y2 h0
theorem pm_mw0 {E : mk_S → Option mk_S} {ρ : mk_S} : qp2 FU (fun rec2 (x1 : Int32) (σ2 : mk_S) =>
    if 24 < x1 then (
      E σ2
      ) else (
      (mk_wr_rightly σ2 x1 0).bind fun σ48 =>
      (mk_wr_goesOn σ48 x1 0).bind fun σ49 =>
      rec2 (x1 + 1) σ49
      )
    ) 0 ρ = E (mk_set_goesOn (mk_set_rightly ρ (wz (mk_rightly ρ) 0 25)) (wz (mk_goesOn ρ) 0 25)) := by
  refine Eq.trans (congrArg (fun s => qp2 FU _ (nI 0) s) (show ρ = mk_set_goesOn (mk_set_rightly ρ (wz (mk_rightly ρ) 0 0)) (wz (mk_goesOn ρ) 0 0) by rw [wz_0, wz_0]; rfl)) ?_
  refine qp2_for (fun k => nI k) (fun k => mk_set_goesOn (mk_set_rightly ρ (wz (mk_rightly ρ) 0 k)) (wz (mk_goesOn ρ) 0 k)) (i := 0) (N := 25) (by omega) (by omega) (fun k h1 h2 rec => ?_) (fun rec => ?_)
  · show (if 24 < nI k then _ else (mk_wr_rightly (mk_set_goesOn (mk_set_rightly ρ (wz (mk_rightly ρ) 0 k)) (wz (mk_goesOn ρ) 0 k)) (nI k) 0).bind fun s8 => (mk_wr_goesOn s8 (nI k) 0).bind fun s9 => rec (nI k + 1) s9) = _
    rw [if_neg (unl 24 24 k), mr_w_rightly h2 (Or.inl rfl), Option.bind_some, mr_w_goesOn h2 (Or.inl rfl), Option.bind_some, pm_s1]
    show rec _ (mk_set_goesOn (mk_set_rightly ρ (upd (wz (mk_rightly ρ) 0 k) k 0)) (upd (wz (mk_goesOn ρ) 0 k) k 0)) = _
    rw [wz_s h1, wz_s h1]
  · show (if 24 < nI 25 then _ else _) = _
    rw [if_pos (ult 24 24 25)]
theorem gapp {L : List Nat} {g i x : Nat} (h : (L ++ [g])[i]? = some x) : (i < L.length ∧ L[i]? = some x) ∨ (i = L.length ∧ x = g) := by
  rw [List.getElem?_append] at h
  by_cases c : i < L.length
  · rw [if_pos c] at h; exact Or.inl ⟨c, h⟩
  · rw [if_neg c] at h
    have h1 := (List.getElem?_eq_some_iff.mp h).1
    have h2 : i = L.length := by
      have : i - L.length < 1 := h1
      omega
    subst h2
    rw [Nat.sub_self] at h
    exact Or.inr ⟨rfl, (Option.some.inj h).symm⟩
theorem Ls_app {r : mk_S} {L : List Nat} {g : Nat} (h : Ls r L) (hg : g < 24) (hn : g ∉ L) (hk : L.length < 24) {G : Nat → Int32} : Ls (mk_set_listSize (mk_set_list (mk_set_goesOn r G) (upd (mk_list r) L.length (nI (g + 1)))) (nI (L.length + 1))) (L ++ [g]) := by
  obtain ⟨h1, h2, h3, h4, h5⟩ := h
  refine ⟨fun x hx => ?_, ?_, ?_, ?_, fun i x e => ?_⟩
  · rcases List.mem_append.mp hx with q | q
    · exact h1 x q
    · rw [List.mem_singleton.mp q]; exact hg
  · rw [List.nodup_append]
    refine ⟨h2, by simp, fun a ha b hb => ?_⟩
    rw [List.mem_singleton.mp hb]
    exact fun q => hn (q ▸ ha)
  · rw [List.length_append]; show L.length + 1 ≤ 24; omega
  · rw [List.length_append]; rfl
  · show upd (mk_list r) L.length (nI (g + 1)) i = nI (x + 1)
    rcases gapp e with ⟨q1, q2⟩ | ⟨rfl, rfl⟩
    · rw [pk_un (by omega)]; exact h5 i x q2
    · rw [pk_us]
def W3 (z M B : Nat → Int32) (s : ck_S) (r : mk_S) : Prop := Rz z s r ∧ ck_memory s = M ∧ mk_before r = B ∧ Sx (ck_cells s) ∧ (∀ f, f < 25 → mk_rightly r f = ck_rightly s f ∧ (ck_rightly s f = 0 ∨ ck_rightly s f = 1)) ∧ (∀ g, g < 24 → ck_rightly s (g + 1) ≠ 0 → mwt (ck_cells s) g) ∧ (∀ f, f < 25 → mk_goesOn r f = 0) ∧ ∃ (L : List Nat) (P : Nat → Bool), Ls r L ∧ Lc s (L.filter P) ∧ ∀ g, g ∈ L → (P g = true ↔ ck_rightly s (g + 1) ≠ 0 ∧ ck_held s (g + 1) ≠ 0)
/-- both lists, k files along the chain -/
def G3 (z M B T H : Nat → Int32) (k : Nat) (s : ck_S) (r : mk_S) : Prop := ∃ L : List Nat, Rz z s r ∧ ck_memory s = M ∧ mk_before r = B ∧ ck_cells s = T ∧ ck_held s = H ∧ L.length = k ∧ Ls r L ∧ Lc s (L.filter (wpb T H)) ∧ (∀ f, f < 25 → ck_came s f = mk_goesOn r f) ∧ mk_goesOn r 0 = 0 ∧ (∀ g, g < 24 → (ck_came s (g + 1) ≠ 0 ↔ g ∈ L)) ∧ cnt (ck_came s) 24 = k ∧ ck_rightly s 0 = 0 ∧ (∀ g, g < 24 → (g ∈ L ∧ mwt T g → ck_rightly s (g + 1) = 1) ∧ (¬ (g ∈ L ∧ mwt T g) → ck_rightly s (g + 1) = 0)) ∧ ∀ f, f < 25 → mk_rightly r f = 0
theorem G3_exit {z M B T H : Nat → Int32} {k : Nat} {s : ck_S} {r : mk_S} (hS : Sx T) (h : G3 z M B T H k s r) : rl (W3 z M B) (some s) (qp2 FU wl2 0 r) := by
  obtain ⟨L, hR, hM, hB, hT, hH, hk, hL, hC, hca, hg0, hcL, hcn, hr0, hri, hmr⟩ := h
  subst hT hH
  obtain ⟨r1, e1, a1, a2, a3, a4, a5, a6⟩ := wl2_ok hR hS hL hmr (fun g hg q => by
    rw [← hca _ (by omega)]
    exact Classical.byContradiction fun c => q ((hcL g hg).mp c)) hg0
  refine ⟨s, r1, rfl, e1, a1, hM, a2.trans hB, hS, fun f hf => ?_, fun g hg q => ?_, a6, L, wpb (ck_cells s) (ck_held s), a3, hC, fun g hg => ?_⟩
  · cases f with
    | zero => rw [a4, hr0]; exact ⟨rfl, Or.inl rfl⟩
    | succ g =>
      by_cases c : g ∈ L ∧ mwt (ck_cells s) g
      · rw [(a5 g (by omega)).1 c, (hri g (by omega)).1 c]; exact ⟨rfl, Or.inr rfl⟩
      · rw [(a5 g (by omega)).2 c, (hri g (by omega)).2 c]; exact ⟨rfl, Or.inl rfl⟩
  · exact Classical.byContradiction fun c => q ((hri g hg).2 (fun b => c b.2))
  · rw [wpb_iff]
    have g24 := hL.1 g hg
    refine and_congr ⟨fun q => ?_, fun q => ?_⟩ Iff.rfl
    · rw [(hri g g24).1 ⟨hg, q⟩]; decide
    · exact Classical.byContradiction fun c => q ((hri g g24).2 (fun b => c b.2))
theorem Lc_same {s : ck_S} {L : List Nat} {P : Nat → Bool} {g : Nat} (h : Lc s (L.filter P)) (hp : P g = false) : Lc s ((L ++ [g]).filter P) := by
  rw [List.filter_append, show [g].filter P = [] by simp [hp], List.append_nil]; exact h
theorem Lc_app {s : ck_S} {L : List Nat} {P : Nat → Bool} {g : Nat} (h : Lc s (L.filter P)) (hp : P g = true) : Lc (ck_set_count (ck_set_waitOn s (upd (ck_waitOn s) (L.filter P).length (nI (g + 1)))) (nI ((L.filter P).length + 1))) ((L ++ [g]).filter P) := by
  rw [List.filter_append, show [g].filter P = [g] by simp [hp]]
  refine ⟨?_, fun i x e => ?_⟩
  · rw [List.length_append]; rfl
  · show upd (ck_waitOn s) (L.filter P).length (nI (g + 1)) i = nI (x + 1)
    rcases gapp e with ⟨q1, q2⟩ | ⟨rfl, rfl⟩
    · rw [pk_un (by omega)]; exact h.2 i x q2
    · rw [pk_us]
