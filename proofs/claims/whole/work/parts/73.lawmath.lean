/-! what the walk of the law asks of the pure functions: a relation of the two sides that every call keeps, with like answers -/
def lm_set (Rl : ck_S → mk_S → Prop) : Prop := ∀ (σ : ck_S) (ρ : mk_S), Rl σ ρ → ∀ (p0 p1 p2 : Int32),  (∃ (σ1 : ck_S) (ρ1 : mk_S), fX7_set p0 p1 p2 σ = some σ1 ∧ fX8_set p0 p1 p2 ρ = some ρ1 ∧ mk_code ρ1 = 0 ∧ Rl σ1 ρ1) ∨ (∃ ρ1 : mk_S, tX7_set p0 p1 p2 σ = some () ∧ fX8_set p0 p1 p2 ρ = some ρ1 ∧ mk_code ρ1 = 1 ∧ Rl σ ρ1)
def lm_run (Rl : ck_S → mk_S → Prop) : Prop := ∀ (σ : ck_S) (ρ : mk_S), Rl σ ρ → ∀ (p0 p1 p2 p3 p4 : Int32),  (∃ (σ1 : ck_S) (ρ1 : mk_S), fX7_run p0 p1 p2 p3 p4 σ = some σ1 ∧ fX8_run p0 p1 p2 p3 p4 ρ = some ρ1 ∧ mk_code ρ1 = 0 ∧ Rl σ1 ρ1) ∨ (∃ ρ1 : mk_S, tX7_run p0 p1 p2 p3 p4 σ = some () ∧ fX8_run p0 p1 p2 p3 p4 ρ = some ρ1 ∧ mk_code ρ1 = 1 ∧ Rl σ ρ1)
def lm_entry (Rl : ck_S → mk_S → Prop) : Prop := ∀ (σ : ck_S) (ρ : mk_S), Rl σ ρ → ∀ (p0 p1 p2 p3 p4 : Int32),  (∃ (σ1 : ck_S) (ρ1 : mk_S), fX7_entry p0 p1 p2 p3 p4 σ = some σ1 ∧ fX8_entry p0 p1 p2 p3 p4 ρ = some ρ1 ∧ mk_code ρ1 = 0 ∧ Rl σ1 ρ1) ∨ (∃ ρ1 : mk_S, tX7_entry p0 p1 p2 p3 p4 σ = some () ∧ fX8_entry p0 p1 p2 p3 p4 ρ = some ρ1 ∧ mk_code ρ1 = 1 ∧ Rl σ ρ1)
def lm_hold (Rl : ck_S → mk_S → Prop) : Prop := ∀ (σ : ck_S) (ρ : mk_S), Rl σ ρ → ∀ (p0 p1 : Int32), (p1 = 0 ∨ p1 = 1) → (∃ (σ1 : ck_S) (ρ1 : mk_S), fX7_hold p0 p1 σ = some σ1 ∧ fX8_hold p0 p1 ρ = some ρ1 ∧ mk_code ρ1 = 0 ∧ Rl σ1 ρ1) ∨ (∃ ρ1 : mk_S, tX7_hold p0 p1 σ = some () ∧ fX8_hold p0 p1 ρ = some ρ1 ∧ mk_code ρ1 = 1 ∧ Rl σ ρ1)
def lm_bit (Rl : ck_S → mk_S → Prop) : Prop := ∀ (σ : ck_S) (ρ : mk_S), Rl σ ρ → ∀ (p0 p1 p2 : Int32), (p2 = 0 ∨ p2 = 1) → (∃ (σ1 : ck_S) (ρ1 : mk_S), fX7_bit p0 p1 p2 σ = some σ1 ∧ fX8_bit p0 p1 p2 ρ = some ρ1 ∧ mk_code ρ1 = 0 ∧ Rl σ1 ρ1) ∨ (∃ ρ1 : mk_S, tX7_bit p0 p1 p2 σ = some () ∧ fX8_bit p0 p1 p2 ρ = some ρ1 ∧ mk_code ρ1 = 1 ∧ Rl σ ρ1)
def lm_tell (Rl : ck_S → mk_S → Prop) : Prop := ∀ (σ : ck_S) (ρ : mk_S), Rl σ ρ → ∀ (p0 p1 : Int32),  (∃ (σ1 : ck_S) (ρ1 : mk_S), fX7_tell p0 p1 σ = some σ1 ∧ fX8_tell p0 p1 ρ = some ρ1 ∧ mk_code ρ1 = 0 ∧ Rl σ1 ρ1) ∨ (∃ ρ1 : mk_S, tX7_tell p0 p1 σ = some () ∧ fX8_tell p0 p1 ρ = some ρ1 ∧ mk_code ρ1 = 1 ∧ Rl σ ρ1)
def lm_about (Rl : ck_S → mk_S → Prop) : Prop := ∀ (σ : ck_S) (ρ : mk_S), Rl σ ρ → ∀ (p0 p1 : Int32), (∃ (r : Int32) (ρ1 : mk_S), fX7_about p0 p1 σ = some r ∧ fX8_about p0 p1 ρ = some (r, ρ1) ∧ mk_code ρ1 = 0 ∧ Rl σ ρ1) ∨ (∃ (r : Int32) (ρ1 : mk_S), tX7_about p0 p1 σ = some () ∧ fX8_about p0 p1 ρ = some (r, ρ1) ∧ mk_code ρ1 = 1 ∧ Rl σ ρ1)
def lm_runOf (Rl : ck_S → mk_S → Prop) : Prop := ∀ (σ : ck_S) (ρ : mk_S), Rl σ ρ → ∀ (p0 p1 p2 : Int32), (∃ (r : Int32) (ρ1 : mk_S), fX7_runOf p0 p1 p2 σ = some r ∧ fX8_runOf p0 p1 p2 ρ = some (r, ρ1) ∧ mk_code ρ1 = 0 ∧ Rl σ ρ1) ∨ (∃ (r : Int32) (ρ1 : mk_S), tX7_runOf p0 p1 p2 σ = some () ∧ fX8_runOf p0 p1 p2 ρ = some (r, ρ1) ∧ mk_code ρ1 = 1 ∧ Rl σ ρ1)
def lm_entryOf (Rl : ck_S → mk_S → Prop) : Prop := ∀ (σ : ck_S) (ρ : mk_S), Rl σ ρ → ∀ (p0 p1 p2 : Int32), (∃ (r : Int32) (ρ1 : mk_S), fX7_entryOf p0 p1 p2 σ = some r ∧ fX8_entryOf p0 p1 p2 ρ = some (r, ρ1) ∧ mk_code ρ1 = 0 ∧ Rl σ ρ1) ∨ (∃ (r : Int32) (ρ1 : mk_S), tX7_entryOf p0 p1 p2 σ = some () ∧ fX8_entryOf p0 p1 p2 ρ = some (r, ρ1) ∧ mk_code ρ1 = 1 ∧ Rl σ ρ1)
def lm_told (Rl : ck_S → mk_S → Prop) : Prop := ∀ (σ : ck_S) (ρ : mk_S), Rl σ ρ → ∀ (p0 : Int32), (∃ (r : Int32) (ρ1 : mk_S), fX7_told p0 σ = some r ∧ fX8_told p0 ρ = some (r, ρ1) ∧ mk_code ρ1 = 0 ∧ Rl σ ρ1) ∨ (∃ (r : Int32) (ρ1 : mk_S), tX7_told p0 σ = some () ∧ fX8_told p0 ρ = some (r, ρ1) ∧ mk_code ρ1 = 1 ∧ Rl σ ρ1)
def lm_isTaken (Rl : ck_S → mk_S → Prop) : Prop := ∀ (σ : ck_S) (ρ : mk_S), Rl σ ρ → ∀ (p0 p1 : Int32), (∃ (r r8 : Int32) (ρ1 : mk_S), fX7_isTaken p0 p1 σ = some r ∧ fX8_isTaken p0 p1 ρ = some (r8, ρ1) ∧ mk_code ρ1 = 0 ∧ lk_z r = lk_z r8 ∧ Rl σ ρ1) ∨ (∃ (r8 : Int32) (ρ1 : mk_S), tX7_isTaken p0 p1 σ = some () ∧ fX8_isTaken p0 p1 ρ = some (r8, ρ1) ∧ mk_code ρ1 = 1 ∧ Rl σ ρ1)
def lm_clear (Rl : ck_S → mk_S → Prop) : Prop := ∀ (σ : ck_S) (ρ : mk_S), Rl σ ρ → ∃ (σ1 : ck_S) (ρ1 : mk_S), fX7_clear σ = some σ1 ∧ fX8_clear ρ = some ρ1 ∧ Rl σ1 ρ1
def lm_check (Rl : ck_S → mk_S → Prop) : Prop := ∀ (σ : ck_S) (ρ : mk_S), Rl σ ρ → ∃ (r : Int32) (σ1 : ck_S) (ρ1 : mk_S), fX7_check σ = some (r, σ1) ∧ fX8_check ρ = some (r, ρ1) ∧ Rl σ1 ρ1
def lm_find (Rl : ck_S → mk_S → Prop) : Prop := ∀ (σ : ck_S) (ρ : mk_S), Rl σ ρ → ∀ p0 : Int64, ∃ (r : Int32) (ρ1 : mk_S), fX7_find p0 σ = some r ∧ fX8_find p0 ρ = some (r, ρ1) ∧ Rl σ ρ1
def lm_init (Rl : ck_S → mk_S → Prop) : Prop := ∃ (σ1 : ck_S) (ρ1 : mk_S), fX5_makeWhole ck_0 = some σ1 ∧ fX8_makeWhole mk_0 = some ρ1 ∧ Rl σ1 ρ1
def lm_all (Rl : ck_S → mk_S → Prop) : Prop := lm_init Rl ∧ lm_clear Rl ∧ lm_set Rl ∧ lm_run Rl ∧ lm_entry Rl ∧ lm_hold Rl ∧ lm_bit Rl ∧ lm_tell Rl ∧ lm_check Rl ∧ lm_about Rl ∧ lm_runOf Rl ∧ lm_entryOf Rl ∧ lm_isTaken Rl ∧ lm_told Rl ∧ lm_find Rl
theorem lk_b01 (x : Int32) : lk_b x = 0 ∨ lk_b x = 1 := by
  unfold lk_b
  by_cases h : x = 0
  · rw [if_pos h]; exact Or.inl rfl
  · rw [if_neg h]; exact Or.inr rfl
theorem lk_tout {x : Int32} (h0 : ¬ x = 0) (h1 : ¬ x = 1) (h2 : ¬ x = 2) (h3 : ¬ x = 3) (h4 : ¬ x = 4) (h5 : ¬ x = 5) (h6 : ¬ x = 6) (h7 : ¬ x = 7) (h8 : ¬ x = 8) (h9 : ¬ x = 9) (h10 : ¬ x = 10) (h11 : ¬ x = 11) (h12 : ¬ x = 12) (h13 : ¬ x = 13) : x.toInt < 0 ∨ 13 < x.toInt := by
  have e0 := lv_neT h0 (show (0 : Int32).toInt = 0 from rfl)
  have e1 := lv_neT h1 (show (1 : Int32).toInt = 1 from rfl)
  have e2 := lv_neT h2 (show (2 : Int32).toInt = 2 from rfl)
  have e3 := lv_neT h3 (show (3 : Int32).toInt = 3 from rfl)
  have e4 := lv_neT h4 (show (4 : Int32).toInt = 4 from rfl)
  have e5 := lv_neT h5 (show (5 : Int32).toInt = 5 from rfl)
  have e6 := lv_neT h6 (show (6 : Int32).toInt = 6 from rfl)
  have e7 := lv_neT h7 (show (7 : Int32).toInt = 7 from rfl)
  have e8 := lv_neT h8 (show (8 : Int32).toInt = 8 from rfl)
  have e9 := lv_neT h9 (show (9 : Int32).toInt = 9 from rfl)
  have e10 := lv_neT h10 (show (10 : Int32).toInt = 10 from rfl)
  have e11 := lv_neT h11 (show (11 : Int32).toInt = 11 from rfl)
  have e12 := lv_neT h12 (show (12 : Int32).toInt = 12 from rfl)
  have e13 := lv_neT h13 (show (13 : Int32).toInt = 13 from rfl)
  omega
theorem lk_more {L k : Nat} (hL : L ≤ 3072) (h : 6 * k ≤ L) (hc : ¬ (nI L - 6 < nI (6 * k))) : 6 * k + 6 ≤ L := by
  rcases Nat.lt_or_ge L (6 * k + 6) with q | q
  · refine absurd ?_ hc
    rw [Int32.lt_iff_toInt_lt, show nI L - 6 = nI L - nI 6 from rfl, pk_sub_toInt (by omega) (by omega), nI_toInt (by omega)]
    omega
  · exact q
theorem lk_in {L k : Nat} (hL : L ≤ 3072) (h : 6 * k + 6 ≤ L) (j : Int32) (hj : j = 0 ∨ j = 1 ∨ j = 2 ∨ j = 3 ∨ j = 4 ∨ j = 5) : vp_in (nI (6 * k) + j) L := by
  obtain ⟨i, hi, rfl⟩ : ∃ i : Nat, i < 6 ∧ j = nI i := by
    rcases hj with rfl | rfl | rfl | rfl | rfl | rfl
    · exact ⟨0, by omega, rfl⟩
    · exact ⟨1, by omega, rfl⟩
    · exact ⟨2, by omega, rfl⟩
    · exact ⟨3, by omega, rfl⟩
    · exact ⟨4, by omega, rfl⟩
    · exact ⟨5, by omega, rfl⟩
  rw [nI_add]
  exact vp_in_nI (by omega) (by omega)
theorem lk_st {args : Array Value} {s : State} {ty : FieldType} (hp : nk_prim ty = true) (h : (Cond.arrayClass ty).before args s = true) : ∃ cA : ClassId, ArrOfT s cA ty ∧ va_RA s cA ty := by
  obtain ⟨c, k, comp, h1, h2, h3⟩ := Cond.arrayClass_spec h
  refine ⟨c, fun n z => ⟨fun _ h => (by cases h), k, h2, comp, h3⟩, ?_⟩
  cases ty <;> first | (cases hp; done) | exact h1
theorem lk_str {args : Array Value} {s : State} {k : Nat} {tx : String} (h1 : (Cond.stringRef RX7 k tx).before args s = true) (h2 : (Cond.exactly (.string RX7 k) "java/lang/String").before args s = true) : ∃ q, vk_R RX7 k tx q s := by
  obtain ⟨a2, c, cA, kA, q1, -⟩ := Cond.exactly_spec (args := args) (first := s) (o := none) (s := s) (idx := []) (t := .string RX7 k) (cls := "java/lang/String") h2
  exact ⟨a2, vk_R.of h1 q1⟩
