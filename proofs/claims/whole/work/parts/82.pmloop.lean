/-! loops by a counter -/
theorem qp1_for {A1 ρ : Type} {b : (A1 → Option ρ) → A1 → Option ρ} {e : Option ρ} (g1 : Nat → A1) {i N : Nat} (hi : i ≤ N) (hN : N - i < 3000) (hs : ∀ k, i ≤ k → k < N → ∀ rec, b rec (g1 k) = rec (g1 (k + 1))) (he : ∀ rec, b rec (g1 N) = e) : qp1 FU b (g1 i) = e := by
  have key : ∀ (d n j : Nat), i ≤ j → j ≤ N → N - j = d → d < n → qp1 n b (g1 j) = e := by
    intro d
    induction d with
    | zero => intro n j h1 h2 h3 h4; cases n with
      | zero => omega
      | succ n => rw [show j = N by omega]; exact he _
    | succ d ih => intro n j h1 h2 h3 h4; cases n with
      | zero => omega
      | succ n => show b (qp1 n b) (g1 j) = e; rw [hs j h1 (by omega)]; exact ih n (j + 1) (by omega) (by omega) (by omega) (by omega)
  exact key (N - i) 3000 i (Nat.le_refl _) hi rfl hN
theorem qp2_for {A1 A2 ρ : Type} {b : (A1 → A2 → Option ρ) → A1 → A2 → Option ρ} {e : Option ρ} (g1 : Nat → A1) (g2 : Nat → A2) {i N : Nat} (hi : i ≤ N) (hN : N - i < 3000) (hs : ∀ k, i ≤ k → k < N → ∀ rec, b rec (g1 k) (g2 k) = rec (g1 (k + 1)) (g2 (k + 1))) (he : ∀ rec, b rec (g1 N) (g2 N) = e) : qp2 FU b (g1 i) (g2 i) = e := by
  have key : ∀ (d n j : Nat), i ≤ j → j ≤ N → N - j = d → d < n → qp2 n b (g1 j) (g2 j) = e := by
    intro d
    induction d with
    | zero => intro n j h1 h2 h3 h4; cases n with
      | zero => omega
      | succ n => rw [show j = N by omega]; exact he _
    | succ d ih => intro n j h1 h2 h3 h4; cases n with
      | zero => omega
      | succ n => show b (qp2 n b) (g1 j) (g2 j) = e; rw [hs j h1 (by omega)]; exact ih n (j + 1) (by omega) (by omega) (by omega) (by omega)
  exact key (N - i) 3000 i (Nat.le_refl _) hi rfl hN
theorem qp3_for {A1 A2 A3 ρ : Type} {b : (A1 → A2 → A3 → Option ρ) → A1 → A2 → A3 → Option ρ} {e : Option ρ} (g1 : Nat → A1) (g2 : Nat → A2) (g3 : Nat → A3) {i N : Nat} (hi : i ≤ N) (hN : N - i < 3000) (hs : ∀ k, i ≤ k → k < N → ∀ rec, b rec (g1 k) (g2 k) (g3 k) = rec (g1 (k + 1)) (g2 (k + 1)) (g3 (k + 1))) (he : ∀ rec, b rec (g1 N) (g2 N) (g3 N) = e) : qp3 FU b (g1 i) (g2 i) (g3 i) = e := by
  have key : ∀ (d n j : Nat), i ≤ j → j ≤ N → N - j = d → d < n → qp3 n b (g1 j) (g2 j) (g3 j) = e := by
    intro d
    induction d with
    | zero => intro n j h1 h2 h3 h4; cases n with
      | zero => omega
      | succ n => rw [show j = N by omega]; exact he _
    | succ d ih => intro n j h1 h2 h3 h4; cases n with
      | zero => omega
      | succ n => show b (qp3 n b) (g1 j) (g2 j) (g3 j) = e; rw [hs j h1 (by omega)]; exact ih n (j + 1) (by omega) (by omega) (by omega) (by omega)
  exact key (N - i) 3000 i (Nat.le_refl _) hi rfl hN
theorem qp4_for {A1 A2 A3 A4 ρ : Type} {b : (A1 → A2 → A3 → A4 → Option ρ) → A1 → A2 → A3 → A4 → Option ρ} {e : Option ρ} (g1 : Nat → A1) (g2 : Nat → A2) (g3 : Nat → A3) (g4 : Nat → A4) {i N : Nat} (hi : i ≤ N) (hN : N - i < 3000) (hs : ∀ k, i ≤ k → k < N → ∀ rec, b rec (g1 k) (g2 k) (g3 k) (g4 k) = rec (g1 (k + 1)) (g2 (k + 1)) (g3 (k + 1)) (g4 (k + 1))) (he : ∀ rec, b rec (g1 N) (g2 N) (g3 N) (g4 N) = e) : qp4 FU b (g1 i) (g2 i) (g3 i) (g4 i) = e := by
  have key : ∀ (d n j : Nat), i ≤ j → j ≤ N → N - j = d → d < n → qp4 n b (g1 j) (g2 j) (g3 j) (g4 j) = e := by
    intro d
    induction d with
    | zero => intro n j h1 h2 h3 h4; cases n with
      | zero => omega
      | succ n => rw [show j = N by omega]; exact he _
    | succ d ih => intro n j h1 h2 h3 h4; cases n with
      | zero => omega
      | succ n => show b (qp4 n b) (g1 j) (g2 j) (g3 j) (g4 j) = e; rw [hs j h1 (by omega)]; exact ih n (j + 1) (by omega) (by omega) (by omega) (by omega)
  exact key (N - i) 3000 i (Nat.le_refl _) hi rfl hN
/-- the places i .. j - 1 become 0 -/
def wz (T : Nat → Int32) (i j : Nat) : Nat → Int32 := fun k => if i ≤ k ∧ k < j then 0 else T k
theorem wz_0 {T : Nat → Int32} {i : Nat} : wz T i i = T := by
  funext k; unfold wz; rw [if_neg (by omega)]
theorem wz_s {T : Nat → Int32} {i k : Nat} (h : i ≤ k) : upd (wz T i k) k 0 = wz T i (k + 1) := by
  funext j
  by_cases hj : j = k
  · subst hj; rw [pk_us]; unfold wz; rw [if_pos (by omega)]
  · rw [pk_un hj]; unfold wz
    by_cases c : i ≤ j ∧ j < k
    · rw [if_pos c, if_pos (by omega)]
    · rw [if_neg c, if_neg (by omega)]
theorem pm_s1 {k : Nat} : nI k + 1 = nI (k + 1) := nI_1 k
theorem pm_wipeCells {i j : Nat} (hij : i ≤ j) (hj : j ≤ 1355) {σ : ck_S} : fX5_wipeCells (nI i) (nI j) σ = some (ck_set_cells σ (wz (ck_cells σ) i j)) := by
  unfold fX5_wipeCells
  refine Eq.trans (congrArg (fun s => qp2 FU _ (nI i) s) (show σ = ck_set_cells σ (wz (ck_cells σ) i i) by rw [wz_0]; rfl)) ?_
  refine qp2_for (fun k => nI k) (fun k => ck_set_cells σ (wz (ck_cells σ) i k)) hij (by omega) (fun k h1 h2 rec => ?_) (fun rec => ?_)
  · show (if nI j ≤ nI k then _ else _) = _
    rw [if_neg (nI_ge h2 (by omega)), pm_wr (by omega), pm_s1]
    show rec _ (cw (ck_set_cells σ (wz (ck_cells σ) i k)) k 0) = _
    show rec _ (ck_set_cells σ (upd (wz (ck_cells σ) i k) k 0)) = _
    rw [wz_s h1]
  · show (if nI j ≤ nI j then _ else _) = _
    rw [if_pos (nI_le (Nat.le_refl _) (by omega))]
theorem pm_blank {i j : Nat} (hij : i ≤ j) (hj : j ≤ 1429) {ρ : mk_S} : fX8_blank (nI i) (nI j) ρ = some (mk_set_all ρ (wz (mk_all ρ) i j)) := by
  unfold fX8_blank
  refine Eq.trans (congrArg (fun s => qp2 FU _ (nI i) s) (show ρ = mk_set_all ρ (wz (mk_all ρ) i i) by rw [wz_0]; rfl)) ?_
  refine qp2_for (fun k => nI k) (fun k => mk_set_all ρ (wz (mk_all ρ) i k)) hij (by omega) (fun k h1 h2 rec => ?_) (fun rec => ?_)
  · show (if nI j ≤ nI k then _ else _) = _
    rw [if_neg (nI_ge h2 (by omega)), pm_mwr (by omega), pm_s1]
    show rec _ (mk_set_all ρ (upd (wz (mk_all ρ) i k) k 0)) = _
    rw [wz_s h1]
  · show (if nI j ≤ nI j then _ else _) = _
    rw [if_pos (nI_le (Nat.le_refl _) (by omega))]
/-- the tables alone -/
def Rt (σ : ck_S) (ρ : mk_S) : Prop := (∃ z, mk_all ρ = mA (ck_cells σ) z) ∧ ∀ i, 1128 ≤ i → i < 1352 → ck_cells σ i = 0 ∨ ck_cells σ i = 1
theorem Rt_w {σ : ck_S} {ρ : mk_S} {i : Nat} {v : Int32} (h : Rt σ ρ) (hi : i < 1355) (hv : 1128 ≤ i → i < 1352 → v = 0 ∨ v = 1) : Rt (cw σ i v) (mw ρ (io i) v) := by
  obtain ⟨⟨z, hz⟩, h4⟩ := h
  refine ⟨⟨z, ?_⟩, fun k k1 k2 => ?_⟩
  · show upd (mk_all ρ) (io i) v = mA (upd (ck_cells σ) i v) z
    rw [hz]; exact mA_upd hi
  · show upd (ck_cells σ) i v k = 0 ∨ upd (ck_cells σ) i v k = 1
    by_cases hk : k = i
    · subst hk; rw [pk_us]; exact hv k1 k2
    · rw [pk_un hk]; exact h4 k k1 k2
theorem Rt_l {σ : ck_S} {ρ : mk_S} (h : Rt σ ρ) (h2 : ∀ f, f < 25 → mk_held ρ f = ck_held σ f) (h3 : ∀ f, f < 25 → ck_held σ f = 0 ∨ ck_held σ f = 1) : Rl σ ρ := ⟨h.1, h2, h3, h.2⟩
theorem wz_in {T : Nat → Int32} {i j k : Nat} (h : i ≤ k) (h2 : k < j) : wz T i j k = 0 := if_pos ⟨h, h2⟩
theorem wz_out {T : Nat → Int32} {i j k : Nat} (h : k < i ∨ j ≤ k) : wz T i j k = T k := if_neg (by omega)
theorem mA_1 {T z : Nat → Int32} {k : Nat} (h1 : 47 ≤ k) (h2 : k < 1175) : mA T z k = T (k - 47) := if_pos ⟨h1, h2⟩
theorem mA_2 {T z : Nat → Int32} {k : Nat} (h1 : 1201 ≤ k) (h2 : k < 1401) : mA T z k = T (k - 73) := by unfold mA; rw [if_neg (by omega), if_pos (by omega)]
theorem mA_3 {T z : Nat → Int32} {k : Nat} (h1 : 1402 ≤ k) (h2 : k < 1429) : mA T z k = T (k - 74) := by unfold mA; rw [if_neg (by omega), if_neg (by omega), if_pos (by omega)]
theorem mA_4 {T z : Nat → Int32} {k : Nat} (h : k < 47 ∨ (1175 ≤ k ∧ k < 1201) ∨ k = 1401 ∨ 1429 ≤ k) : mA T z k = z k := by unfold mA; rw [if_neg (by omega), if_neg (by omega), if_neg (by omega)]
theorem mA_cs (k : Nat) : (47 ≤ k ∧ k < 1175) ∨ (1201 ≤ k ∧ k < 1401) ∨ (1402 ≤ k ∧ k < 1429) ∨ (k < 47 ∨ (1175 ≤ k ∧ k < 1201) ∨ k = 1401 ∨ 1429 ≤ k) := by omega
theorem mA_wz {T z : Nat → Int32} {i j : Nat} (hj : j ≤ 1128) : wz (mA T z) (i + 47) (j + 47) = mA (wz T i j) z := by
  funext k
  by_cases c : i + 47 ≤ k ∧ k < j + 47
  · rw [wz_in c.1 c.2, mA_1 (by omega) (by omega), wz_in (by omega) (by omega)]
  · rw [wz_out (by omega)]
    rcases mA_cs k with h | h | h | h
    · rw [mA_1 h.1 h.2, mA_1 h.1 h.2, wz_out (by omega)]
    · rw [mA_2 h.1 h.2, mA_2 h.1 h.2, wz_out (by omega)]
    · rw [mA_3 h.1 h.2, mA_3 h.1 h.2, wz_out (by omega)]
    · rw [mA_4 h, mA_4 h]
theorem mA_zero {T z : Nat → Int32} : wz (mA T z) 0 1429 = mA (wz T 0 1355) (wz z 0 1429) := by
  funext k
  rcases mA_cs k with h | h | h | h
  · rw [mA_1 h.1 h.2, wz_in (by omega) (by omega), wz_in (by omega) (by omega)]
  · rw [mA_2 h.1 h.2, wz_in (by omega) (by omega), wz_in (by omega) (by omega)]
  · rw [mA_3 h.1 h.2, wz_in (by omega) (by omega), wz_in (by omega) (by omega)]
  · rw [mA_4 h]
    by_cases c : k < 1429
    · rw [wz_in (by omega) c, wz_in (by omega) c]
    · rw [wz_out (by omega), wz_out (by omega), mA_4 h]
theorem mA_any (A : Nat → Int32) : ∃ T z, A = mA T z := by
  refine ⟨fun i => A (io i), A, ?_⟩
  funext k
  rcases mA_cs k with h | h | h | h
  · rw [mA_1 h.1 h.2, io1 (by omega)]; exact congrArg A (by omega)
  · rw [mA_2 h.1 h.2, show k - 73 = 1128 + (k - 1201) by omega, io2 (by omega)]; exact congrArg A (by omega)
  · rw [mA_3 h.1 h.2, show k - 74 = 1328 + (k - 1402) by omega, io3 (by omega)]; exact congrArg A (by omega)
  · rw [mA_4 h]
theorem mA_eq {T U z : Nat → Int32} (h : ∀ i, i < 1355 → T i = U i) : mA T z = mA U z := by
  funext k
  rcases mA_cs k with c | c | c | c
  · rw [mA_1 c.1 c.2, mA_1 c.1 c.2, h _ (by omega)]
  · rw [mA_2 c.1 c.2, mA_2 c.1 c.2, h _ (by omega)]
  · rw [mA_3 c.1 c.2, mA_3 c.1 c.2, h _ (by omega)]
  · rw [mA_4 c, mA_4 c]
