/-! the pure side: numbers, reads and writes, the relation of the two sides -/
theorem pm_rdN {f : Nat → Int32} {n k : Nat} (h : k < n) (hn : n < 2 ^ 31) : ik_rd f n (nI k) = some (f k) := by
  unfold ik_rd
  rw [if_neg (nI_in h hn), nI_clamp (by omega)]
theorem pm_wrN {f : Nat → Int32} {n k : Nat} {v : Int32} (h : k < n) (hn : n < 2 ^ 31) : ik_wr f n (nI k) v = some (upd f k v) := by
  unfold ik_wr
  rw [if_neg (nI_in h hn), nI_clamp (by omega)]
/-- a place of the class's cells among the reference's -/
def io (i : Nat) : Nat := if i < 1128 then i + 47 else if i < 1328 then i + 73 else i + 74
def mA (T z : Nat → Int32) (j : Nat) : Int32 := if 47 ≤ j ∧ j < 1175 then T (j - 47) else if 1201 ≤ j ∧ j < 1401 then T (j - 73) else if 1402 ≤ j ∧ j < 1429 then T (j - 74) else z j
theorem io_lt {i : Nat} (h : i < 1355) : io i < 1429 := by unfold io; split <;> (try split) <;> omega
theorem io1 {i : Nat} (h : i < 1128) : io i = i + 47 := by unfold io; rw [if_pos h]
theorem io2 {i : Nat} (h : i < 200) : io (1128 + i) = 1201 + i := by unfold io; rw [if_neg (by omega), if_pos (by omega)]; omega
theorem io3 {i : Nat} (h : i < 27) : io (1328 + i) = 1402 + i := by unfold io; rw [if_neg (by omega), if_neg (by omega)]; omega
theorem mA_at {T z : Nat → Int32} {i : Nat} (h : i < 1355) : mA T z (io i) = T i := by
  unfold io mA
  by_cases h1 : i < 1128
  · rw [if_pos h1, if_pos (by omega)]; congr 1
  · rw [if_neg h1]
    by_cases h2 : i < 1328
    · rw [if_pos h2, if_neg (by omega), if_pos (by omega)]; congr 1
    · rw [if_neg h2, if_neg (by omega), if_neg (by omega), if_pos (by omega)]; congr 1
theorem io_inj {i j : Nat} (h : io i = io j) (hi : i < 1355) (hj : j < 1355) : i = j := by
  unfold io at h
  split at h <;> split at h <;> (try split at h) <;> (try split at h) <;> omega
theorem mA_upd {T z : Nat → Int32} {i : Nat} {v : Int32} (h : i < 1355) : upd (mA T z) (io i) v = mA (upd T i v) z := by
  funext j
  by_cases hj : j = io i
  · rw [hj, pk_us, mA_at h, pk_us]
  · rw [pk_un hj]
    unfold mA
    have e : ∀ k, k ≠ i → upd T i v k = T k := fun k hk => pk_un hk
    by_cases c1 : 47 ≤ j ∧ j < 1175
    · rw [if_pos c1, if_pos c1, e _ (fun q => hj (by rw [← q, io1 (by omega)]; omega))]
    · rw [if_neg c1, if_neg c1]
      by_cases c2 : 1201 ≤ j ∧ j < 1401
      · rw [if_pos c2, if_pos c2, e _ (fun q => hj (by rw [← q, show j - 73 = 1128 + (j - 1201) by omega, io2 (by omega)]; omega))]
      · rw [if_neg c2, if_neg c2]
        by_cases c3 : 1402 ≤ j ∧ j < 1429
        · rw [if_pos c3, if_pos c3, e _ (fun q => hj (by rw [← q, show j - 74 = 1328 + (j - 1402) by omega, io3 (by omega)]; omega))]
        · rw [if_neg c3, if_neg c3]
def cw (σ : ck_S) (i : Nat) (v : Int32) : ck_S := ck_set_cells σ (upd (ck_cells σ) i v)
def mw (ρ : mk_S) (j : Nat) (v : Int32) : mk_S := mk_set_all ρ (upd (mk_all ρ) j v)
theorem pm_wr {σ : ck_S} {i : Nat} {v : Int32} (h : i < 1355) : ck_wr_cells σ (nI i) v = some (cw σ i v) := by
  show (ik_wr (ck_cells σ) 1355 (nI i) v).map (ck_set_cells σ) = _
  rw [pm_wrN h (by decide)]; rfl
theorem pm_mwr {ρ : mk_S} {j : Nat} {v : Int32} (h : j < 1429) : mk_wr_all ρ (nI j) v = some (mw ρ j v) := by
  show (ik_wr (mk_all ρ) 1429 (nI j) v).map (mk_set_all ρ) = _
  rw [pm_wrN h (by decide)]; rfl
theorem pm_rd {σ : ck_S} {i : Nat} (h : i < 1355) : ck_rd_cells σ (nI i) = some (ck_cells σ i) := pm_rdN h (by decide)
theorem pm_mrd {ρ : mk_S} {j : Nat} (h : j < 1429) : mk_rd_all ρ (nI j) = some (mk_all ρ j) := pm_rdN h (by decide)
/-- the two sides hold the same tables -/
def Rl (σ : ck_S) (ρ : mk_S) : Prop := (∃ z, mk_all ρ = mA (ck_cells σ) z) ∧ (∀ f, f < 25 → mk_held ρ f = ck_held σ f) ∧ (∀ f, f < 25 → ck_held σ f = 0 ∨ ck_held σ f = 1) ∧ ∀ i, 1128 ≤ i → i < 1352 → ck_cells σ i = 0 ∨ ck_cells σ i = 1
theorem Rl_code {σ : ck_S} {ρ : mk_S} {c : Int32} (h : Rl σ ρ) : Rl σ (mk_set_code ρ c) := h
theorem Rl_r {σ : ck_S} {ρ : mk_S} {i : Nat} (h : Rl σ ρ) (hi : i < 1355) : mk_all ρ (io i) = ck_cells σ i := by
  obtain ⟨⟨z, hz⟩, -⟩ := h
  rw [hz]; exact mA_at hi
theorem Rl_w {σ : ck_S} {ρ : mk_S} {i : Nat} {v : Int32} (h : Rl σ ρ) (hi : i < 1355) (hv : 1128 ≤ i → i < 1352 → v = 0 ∨ v = 1) : Rl (cw σ i v) (mw ρ (io i) v) := by
  obtain ⟨⟨z, hz⟩, h2, h3, h4⟩ := h
  refine ⟨⟨z, ?_⟩, h2, h3, fun k k1 k2 => ?_⟩
  · show upd (mk_all ρ) (io i) v = mA (upd (ck_cells σ) i v) z
    rw [hz]; exact mA_upd hi
  · show upd (ck_cells σ) i v k = 0 ∨ upd (ck_cells σ) i v k = 1
    by_cases hk : k = i
    · subst hk; rw [pk_us]; exact hv k1 k2
    · rw [pk_un hk]; exact h4 k k1 k2
-- whole numbers
theorem pm_lt {a b : Nat} (ha : a < 2 ^ 31) (hb : b < 2 ^ 31) (h : ¬ a < b) : ¬ nI a < nI b := fun q => h ((nI_ltI ha hb).mp q)
theorem ix_file (x : Int32) : (x < 1 ∨ 24 < x) ∨ ∃ g : Nat, g < 24 ∧ x = nI (g + 1) := by
  rcases pk_ix x (n := 25) (by decide) with h | h | ⟨j, hj, rfl⟩
  · refine Or.inl (Or.inl ?_)
    rw [Int32.lt_iff_toInt_lt] at h ⊢
    have e0 : (0 : Int32).toInt = 0 := rfl
    have e1 : (1 : Int32).toInt = 1 := rfl
    omega
  · refine Or.inl (Or.inr ?_)
    rw [Int32.lt_iff_toInt_lt]
    rw [Int32.le_iff_toInt_le] at h
    have e0 : (24 : Int32).toInt = 24 := rfl
    have e1 : (nI 25).toInt = 25 := rfl
    omega
  · cases j with
    | zero => exact Or.inl (Or.inl (by decide))
    | succ g => exact Or.inr ⟨g, by omega, rfl⟩
theorem pm_f1 {g : Nat} (h : g < 24) : ¬ nI (g + 1) < 1 := pm_lt (b := 1) (by omega) (by decide) (by omega)
theorem pm_f2 {g : Nat} (h : g < 24) : ¬ 24 < nI (g + 1) := pm_lt (a := 24) (by decide) (by omega) (by omega)
theorem pm_isFile0 {x : Int32} (h : x < 1 ∨ 24 < x) : fX7_isFile x = some 0 := by
  unfold fX7_isFile
  by_cases h1 : x < 1
  · rw [if_pos h1]
  · rw [if_neg h1, if_pos (h.resolve_left h1)]
theorem pm_isFile1 {g : Nat} (h : g < 24) : fX7_isFile (nI (g + 1)) = some 1 := by
  unfold fX7_isFile
  rw [if_neg (pm_f1 h), if_neg (pm_f2 h)]
theorem pm_isIn0 {x lo hi : Int32} (h : x < lo ∨ hi < x) : fX8_isIn x lo hi = some 0 := by
  unfold fX8_isIn
  by_cases h1 : x < lo
  · rw [if_pos h1]
  · rw [if_neg h1, if_pos (h.resolve_left h1)]
theorem pm_isIn1 {x lo hi : Int32} (h1 : ¬ x < lo) (h2 : ¬ hi < x) : fX8_isIn x lo hi = some 1 := by
  unfold fX8_isIn
  rw [if_neg h1, if_neg h2]
theorem pm_may0 {ρ : mk_S} : fX8_may 0 ρ = some (0, mk_set_code ρ 1) := by simp [fX8_may, jn, ik_zb]
theorem pm_may1 {ρ : mk_S} : fX8_may 1 ρ = some (1, mk_set_code ρ 0) := by simp [fX8_may, jn, ik_zb]
theorem pm_needFile0 {x : Int32} (h : x < 1 ∨ 24 < x) (σ : ck_S) : tX7_needFile x σ = some () := by unfold tX7_needFile; rw [pm_isFile0 h]; rfl
theorem pm_needFile1 {g : Nat} (h : g < 24) : fX7_needFile (nI (g + 1)) = some () := by unfold fX7_needFile; rw [pm_isFile1 h]; rfl
theorem pm_needFile2 {g : Nat} (h : g < 24) (σ : ck_S) : ¬ tX7_needFile (nI (g + 1)) σ = some () := by unfold tX7_needFile; rw [pm_isFile1 h]; decide
theorem pm_np0 {x n : Int32} (h : x < 0 ∨ n ≤ x) (σ : ck_S) : tX7_needPlace x n σ = some () := by
  unfold tX7_needPlace
  by_cases h1 : x < 0
  · rw [if_pos h1]
  · rw [if_neg h1, if_neg (Int32.not_lt.mpr (h.resolve_left h1))]
theorem pm_np1 {j n : Nat} (h : j < n) (hn : n < 2 ^ 31) : fX7_needPlace (nI j) (nI n) = some () := by
  unfold fX7_needPlace
  rw [if_neg (nI_pos (by omega)), if_pos (nI_lt h hn)]
theorem pm_np2 {j n : Nat} (h : j < n) (hn : n < 2 ^ 31) (σ : ck_S) : ¬ tX7_needPlace (nI j) (nI n) σ = some () := by
  unfold tX7_needPlace
  rw [if_neg (nI_pos (by omega)), if_pos (nI_lt h hn)]
  decide
/-- a place 0 .. n - 1, as the two sides ask for it -/
theorem ix_n (x : Int32) {n : Nat} (hn : n < 2 ^ 31) : (x < 0 ∨ nI n ≤ x) ∨ ∃ j : Nat, j < n ∧ x = nI j := by
  rcases pk_ix x hn with h | h | h
  · exact Or.inl (Or.inl h)
  · exact Or.inl (Or.inr h)
  · exact Or.inr h
theorem ix_b {x : Int32} {n : Nat} (hn : n + 1 < 2 ^ 31) (h : x < 0 ∨ nI (n + 1) ≤ x) : x < 0 ∨ nI n < x := by
  rcases h with h | h
  · exact Or.inl h
  · refine Or.inr ?_
    rw [Int32.lt_iff_toInt_lt, nI_toInt (by omega)]
    rw [Int32.le_iff_toInt_le, nI_toInt (by omega)] at h
    omega
theorem ix_o {j n : Nat} (hn : n < 2 ^ 31) (h : j ≤ n) : ¬ nI n < nI j := pm_lt hn (by omega) (by omega)
-- cells of a file
theorem pm_fc {g : Nat} : (nI (g + 1) - 1) * 47 = nI (g * 47) := by rw [nI_pred, show (47 : Int32) = nI 47 from rfl, pk_mul]
theorem pm_mc {g : Nat} : 47 * nI (g + 1) = nI (g * 47 + 47) := by rw [show (47 : Int32) = nI 47 from rfl, pk_mul]; congr 1; omega
theorem pm_number {g w : Nat} (hg : g < 24) (hw : w < 47) {σ : ck_S} : fX5_number (nI (g + 1)) (nI w) σ = some (ck_cells σ (g * 47 + w)) := by
  unfold fX5_number fX5_fileCell
  show (ck_rd_cells σ ((nI (g + 1) - 1) * 47 + nI w)).bind _ = _
  rw [pm_fc, nI_add, pm_rd (by omega)]; rfl
theorem pm_putNumber {g w : Nat} (hg : g < 24) (hw : w < 47) {v : Int32} {σ : ck_S} : fX5_putNumber (nI (g + 1)) (nI w) v σ = some (cw σ (g * 47 + w) v) := by
  unfold fX5_putNumber fX5_fileCell
  show (ck_wr_cells σ ((nI (g + 1) - 1) * 47 + nI w) v).bind _ = _
  rw [pm_fc, nI_add, pm_wr (by omega)]; rfl
theorem pm_runCell {g k : Nat} : fX5_runCell (nI (g + 1)) (nI k) = some (nI (g * 47 + 5 + k * 3)) := by
  unfold fX5_runCell
  rw [pm_fc, show (5 : Int32) = nI 5 from rfl, show (3 : Int32) = nI 3 from rfl, pk_mul, nI_add, nI_add]
theorem pm_entryCell {g k : Nat} : fX5_entryCell (nI (g + 1)) (nI k) = some (nI (g * 47 + 23 + k * 3)) := by
  unfold fX5_entryCell
  rw [pm_fc, show (23 : Int32) = nI 23 from rfl, show (3 : Int32) = nI 3 from rfl, pk_mul, nI_add, nI_add]
theorem pm_runAt {g k : Nat} : fX8_runAt (nI (g + 1)) (nI k) = some (nI (g * 47 + 52 + k * 3)) := by
  unfold fX8_runAt
  rw [pm_mc, show (5 : Int32) = nI 5 from rfl, show (3 : Int32) = nI 3 from rfl, pk_mul, nI_add, nI_add]; congr 2; omega
theorem pm_entryAt {g k : Nat} : fX8_entryAt (nI (g + 1)) (nI k) = some (nI (g * 47 + 70 + k * 3)) := by
  unfold fX8_entryAt
  rw [pm_mc, show (23 : Int32) = nI 23 from rfl, show (3 : Int32) = nI 3 from rfl, pk_mul, nI_add, nI_add]; congr 2; omega
theorem pm_runPart {g k q : Nat} (hg : g < 24) (hk : k < 6) (hq : q < 3) {σ : ck_S} : fX5_runPart (nI (g + 1)) (nI k) (nI q) σ = some (ck_cells σ (g * 47 + 5 + k * 3 + q)) := by
  unfold fX5_runPart
  rw [pm_runCell]
  show (ck_rd_cells σ (nI _ + nI q)).bind _ = _
  rw [nI_add, pm_rd (by omega)]; rfl
theorem pm_entryPart {g k q : Nat} (hg : g < 24) (hk : k < 8) (hq : q < 3) {σ : ck_S} : fX5_entryPart (nI (g + 1)) (nI k) (nI q) σ = some (ck_cells σ (g * 47 + 23 + k * 3 + q)) := by
  unfold fX5_entryPart
  rw [pm_entryCell]
  show (ck_rd_cells σ (nI _ + nI q)).bind _ = _
  rw [nI_add, pm_rd (by omega)]; rfl
def cw3 (σ : ck_S) (i : Nat) (x y z : Int32) : ck_S := cw (cw (cw σ i x) (i + 1) y) (i + 2) z
def mw3 (ρ : mk_S) (i : Nat) (x y z : Int32) : mk_S := mw (mw (mw ρ i x) (i + 1) y) (i + 2) z
theorem pm_w3 {σ : ck_S} {i : Nat} {x y z : Int32} (h : i + 2 < 1355) : ((ck_wr_cells σ (nI i + 0) x).bind fun s1 => (ck_wr_cells s1 (nI i + 1) y).bind fun s2 => (ck_wr_cells s2 (nI i + 2) z).bind fun s3 => some s3) = some (cw3 σ i x y z) := by
  rw [show nI i + 0 = nI i from by rw [show (0 : Int32) = nI 0 from rfl, nI_add]; rfl, show nI i + 1 = nI (i + 1) from nI_1 i, show nI i + 2 = nI (i + 2) from by rw [show (2 : Int32) = nI 2 from rfl, nI_add], pm_wr (by omega)]
  show ((ck_wr_cells (cw σ i x) (nI (i + 1)) y).bind fun s2 => (ck_wr_cells s2 (nI (i + 2)) z).bind fun s3 => some s3) = _
  rw [pm_wr (by omega)]
  show ((ck_wr_cells (cw (cw σ i x) (i + 1) y) (nI (i + 2)) z).bind fun s3 => some s3) = _
  rw [pm_wr (by omega)]; rfl
theorem pm_putRun {g k : Nat} (hg : g < 24) (hk : k < 6) {x y z : Int32} {σ : ck_S} : fX5_putRun (nI (g + 1)) (nI k) x y z σ = some (cw3 σ (g * 47 + 5 + k * 3) x y z) := by
  unfold fX5_putRun
  rw [pm_runCell]
  exact pm_w3 (by omega)
theorem pm_putEntry {g k : Nat} (hg : g < 24) (hk : k < 8) {x y z : Int32} {σ : ck_S} : fX5_putEntry (nI (g + 1)) (nI k) x y z σ = some (cw3 σ (g * 47 + 23 + k * 3) x y z) := by
  unfold fX5_putEntry
  rw [pm_entryCell]
  exact pm_w3 (by omega)
theorem pm_put {i : Nat} (h : i + 2 < 1429) {x y z : Int32} {ρ : mk_S} : fX8_put (nI i) x y z ρ = some (mw3 ρ i x y z) := by
  unfold fX8_put
  rw [show nI i + 1 = nI (i + 1) from nI_1 i, show nI i + 2 = nI (i + 2) from by rw [show (2 : Int32) = nI 2 from rfl, nI_add], pm_mwr (by omega)]
  show ((mk_wr_all (mw ρ i x) (nI (i + 1)) y).bind fun s2 => (mk_wr_all s2 (nI (i + 2)) z).bind fun s3 => some s3) = _
  rw [pm_mwr (by omega)]
  show ((mk_wr_all (mw (mw ρ i x) (i + 1) y) (nI (i + 2)) z).bind fun s3 => some s3) = _
  rw [pm_mwr (by omega)]; rfl
theorem Rl_w3 {σ : ck_S} {ρ : mk_S} {i : Nat} {x y z : Int32} (h : Rl σ ρ) (hi : i + 2 < 1128) : Rl (cw3 σ i x y z) (mw3 ρ (i + 47) x y z) := by
  have h1 := Rl_w (v := x) h (i := i) (by omega) (by omega)
  have h2 := Rl_w (v := y) h1 (i := i + 1) (by omega) (by omega)
  have h3 := Rl_w (v := z) h2 (i := i + 2) (by omega) (by omega)
  rw [io1 (by omega)] at h1
  rw [io1 (by omega), io1 (by omega)] at h2
  rw [io1 (by omega), io1 (by omega), io1 (by omega)] at h3
  rw [show i + 1 + 47 = i + 47 + 1 by omega, show i + 2 + 47 = i + 47 + 2 by omega] at h3
  exact h3
