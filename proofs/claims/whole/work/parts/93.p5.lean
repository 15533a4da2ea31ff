/-! the fifth pass: bitmaps and counts -/
def Vr (T : Nat → Int32) : Prop := ∀ g, g < 24 → ∀ k, k < 6 → ∃ a n, T (g * 47 + 5 + k * 3 + 2) = nI a ∧ T (g * 47 + 5 + k * 3 + 1) = nI n ∧ n ≤ 64 ∧ a + n ≤ 201 ∧ (n = 0 ∨ 1 ≤ a)
theorem Vr_eq {T U : Nat → Int32} (h : Vr T) (e : ∀ i, i < 1128 → U i = T i) : Vr U := by
  intro g hg k hk
  rw [e _ (by omega), e _ (by omega)]
  exact h g hg k hk
def B5 (z M B : Nat → Int32) (σ : ck_S) (ρ : mk_S) : Prop := Rz z σ ρ ∧ ck_memory σ = M ∧ mk_before ρ = B ∧ Vr (ck_cells σ)
theorem B5_w {z M B : Nat → Int32} {σ : ck_S} {ρ : mk_S} {i : Nat} {v : Int32} (h : B5 z M B σ ρ) (h1 : 1128 ≤ i) (h2 : i < 1355) (hv : i < 1352 → v = 0 ∨ v = 1) : B5 z M B (cw σ i v) (mw ρ (io i) v) := by
  obtain ⟨a, b, c, d⟩ := h
  refine ⟨Rz_w a h2 (fun _ => hv), b, c, Vr_eq d (fun j hj => ?_)⟩
  show upd (ck_cells σ) i v j = _
  rw [pk_un (by omega)]
/-- the blocks a .. a + n - 1 become taken -/
def tb (o : Nat) (T : Nat → Int32) (a n : Nat) : Nat → Int32 := fun k => if o + a ≤ k ∧ k < o + a + n then 1 else T k
theorem tb_0 {o : Nat} {T : Nat → Int32} {a : Nat} : tb o T a 0 = T := by
  funext k; unfold tb; rw [if_neg (by omega)]
theorem tb_s {o : Nat} {T : Nat → Int32} {a k : Nat} : upd (tb o T a k) (o + a + k) 1 = tb o T a (k + 1) := by
  funext j
  by_cases hj : j = o + a + k
  · subst hj; rw [pk_us]; unfold tb; rw [if_pos (by omega)]
  · rw [pk_un hj]; unfold tb
    by_cases c : o + a ≤ j ∧ j < o + a + k
    · rw [if_pos c, if_pos (by omega)]
    · rw [if_neg c, if_neg (by omega)]
theorem cw_cs {σ : ck_S} {X : Nat → Int32} {k : Nat} {v : Int32} : cw (ck_set_cells σ X) k v = ck_set_cells σ (upd X k v) := rfl
theorem pm_take {a n : Nat} (hn : n ≤ 64) (ha : a + n ≤ 201) (h0 : n = 0 ∨ 1 ≤ a) {σ : ck_S} : fX0_takeBlocks (nI a) (nI n) σ = some (ck_set_cells σ (tb 1127 (ck_cells σ) a n)) := by
  unfold fX0_takeBlocks
  refine Eq.trans (congrArg (fun s => qp2 FU _ (nI 0) s) (show σ = ck_set_cells σ (tb 1127 (ck_cells σ) a 0) by rw [tb_0]; rfl)) ?_
  refine qp2_for (fun k => nI k) (fun k => ck_set_cells σ (tb 1127 (ck_cells σ) a k)) (i := 0) (N := n) (by omega) (by omega) (fun k h1 h2 rec => ?_) (fun rec => ?_)
  · show (if nI n ≤ nI k then _ else if 64 ≤ nI k then _ else if nI a + nI k < 1 then _ else if 200 < nI a + nI k then _ else _) = _
    rw [if_neg (nI_ge h2 (by omega)), if_neg (uge 64 64 k), nI_add, if_neg (vnl (a + k) 1 1), if_neg (unl 200 200 (a + k)), show a + k = (a + k - 1) + 1 by omega, pm_putBit0 (by omega), Option.bind_some, pm_s1, cw_cs, show 1128 + (a + k - 1) = 1127 + a + k by omega, tb_s]
  · show (if nI n ≤ nI n then _ else _) = _
    rw [if_pos (nI_le (Nat.le_refl _) (by omega))]
theorem pm_mtake {a n o : Nat} {ro : Int32} {rec69 : Int32 → mk_S → Option mk_S} (hn : n ≤ 64) (ha : a + n ≤ 201) (ho : o + 2 < 1175) {ρ : mk_S} (e2 : mk_all ρ (o + 2) = nI a) (e1 : mk_all ρ (o + 1) = nI n) : qp2 FU (fun rec91 (x25 : Int32) (σ26 : mk_S) =>
                  (mk_rd_all σ26 (nI o + 2)).bind fun v27 =>
                  (mk_rd_all σ26 (nI o + 1)).bind fun v28 =>
                  if (v27 + v28) ≤ x25 then (
                    rec69 ro σ26
                    ) else (
                    (mk_wr_all σ26 (1200 + x25) 1).bind fun σ30 =>
                    rec91 (x25 + 1) σ30
                    )
                  ) (nI a) ρ = rec69 ro (mk_set_all ρ (tb 1200 (mk_all ρ) a n)) := by
  have hr : ∀ k, mk_all (mk_set_all ρ (tb 1200 (mk_all ρ) a k)) = tb 1200 (mk_all ρ) a k := fun _ => rfl
  have hq : ∀ k j, j < 1175 → tb 1200 (mk_all ρ) a k j = mk_all ρ j := fun k j hj => by unfold tb; rw [if_neg (by omega)]
  refine Eq.trans (congrArg (fun s => qp2 FU _ (nI a) s) (show ρ = mk_set_all ρ (tb 1200 (mk_all ρ) a 0) by rw [tb_0]; rfl)) ?_
  refine qp2_for (fun k => nI (a + k)) (fun k => mk_set_all ρ (tb 1200 (mk_all ρ) a k)) (i := 0) (N := n) (by omega) (by omega) (fun k h1 h2 rec => ?_) (fun rec => ?_)
  · show ((mk_rd_all (mk_set_all ρ (tb 1200 (mk_all ρ) a k)) (nI o + 2)).bind fun v27 => (mk_rd_all (mk_set_all ρ (tb 1200 (mk_all ρ) a k)) (nI o + 1)).bind fun v28 => if (v27 + v28) ≤ nI (a + k) then _ else _) = _
    rw [pm_s2, pm_s1, pm_mrd (by omega), Option.bind_some, pm_mrd (by omega), Option.bind_some, hr, hq k _ (by omega), hq k _ (by omega), e2, e1, nI_add, if_neg (nI_ge (by omega) (by omega)), show (1200 : Int32) = nI 1200 from rfl, nI_add, pm_mwr (by omega), Option.bind_some, pm_s1, mw_sa, show 1200 + (a + k) = 1200 + a + k by omega, tb_s]; rfl
  · show ((mk_rd_all (mk_set_all ρ (tb 1200 (mk_all ρ) a n)) (nI o + 2)).bind fun v27 => (mk_rd_all (mk_set_all ρ (tb 1200 (mk_all ρ) a n)) (nI o + 1)).bind fun v28 => if (v27 + v28) ≤ nI (a + n) then _ else _) = _
    rw [pm_s2, pm_s1, pm_mrd (by omega), Option.bind_some, pm_mrd (by omega), Option.bind_some, hr, hq n _ (by omega), hq n _ (by omega), e2, e1, nI_add, if_pos (nI_le (Nat.le_refl _) (by omega))]
theorem mA_tb {T z : Nat → Int32} {a n : Nat} (ha : a + n ≤ 201) (h0 : n = 0 ∨ 1 ≤ a) : tb 1200 (mA T z) a n = mA (tb 1127 T a n) z := by
  funext k
  by_cases c : 1200 + a ≤ k ∧ k < 1200 + a + n
  · rw [mA_2 (by omega) (by omega)]; unfold tb; rw [if_pos c, if_pos (by omega)]
  · rw [show tb 1200 (mA T z) a n k = mA T z k by unfold tb; rw [if_neg c]]
    have q : ∀ j, ¬ (1127 + a ≤ j ∧ j < 1127 + a + n) → tb 1127 T a n j = T j := fun j hj => by unfold tb; rw [if_neg hj]
    rcases mA_cs k with h | h | h | h
    · rw [mA_1 h.1 h.2, mA_1 h.1 h.2, q _ (by omega)]
    · rw [mA_2 h.1 h.2, mA_2 h.1 h.2, q _ (by omega)]
    · rw [mA_3 h.1 h.2, mA_3 h.1 h.2, q _ (by omega)]
    · rw [mA_4 h, mA_4 h]
theorem B5_t {z M B : Nat → Int32} {σ : ck_S} {ρ : mk_S} {a n : Nat} (h : B5 z M B σ ρ) (ha : a + n ≤ 201) (h0 : n = 0 ∨ 1 ≤ a) : B5 z M B (ck_set_cells σ (tb 1127 (ck_cells σ) a n)) (mk_set_all ρ (tb 1200 (mk_all ρ) a n)) := by
  obtain ⟨⟨a1, a2, a3, a4⟩, b, c, d⟩ := h
  refine ⟨⟨?_, a2, a3, fun i h1 h2 => ?_⟩, b, c, Vr_eq d (fun j hj => ?_)⟩
  · show tb 1200 (mk_all ρ) a n = mA (tb 1127 (ck_cells σ) a n) z
    rw [a1]; exact mA_tb ha h0
  · show tb 1127 (ck_cells σ) a n i = 0 ∨ tb 1127 (ck_cells σ) a n i = 1
    unfold tb
    split
    · exact Or.inr rfl
    · exact a4 i h1 h2
  · show tb 1127 (ck_cells σ) a n j = _
    unfold tb
    by_cases q : n = 0
    · rw [if_neg (by omega)]
    · rw [if_neg (by omega)]
/-- how many of the k bits from o on are free, as the class counts them -/
def cf (T : Nat → Int32) (o : Nat) : Nat → Int32
  | 0 => 0
  | k + 1 => if T (o + k) = 0 then cf T o k + 1 else cf T o k
theorem cf_m {T : Nat → Int32} {o k : Nat} (h : T (o + k) = 0 ∨ T (o + k) = 1) : cf T o (k + 1) = cf T o k + (1 - T (o + k)) := by
  show (if T (o + k) = 0 then cf T o k + 1 else cf T o k) = _
  rcases h with h | h
  · rw [if_pos h, h, show (1 : Int32) - 0 = 1 by decide]
  · rw [h, if_neg (by decide), show (1 : Int32) - 1 = 0 by decide, Int32.add_zero]
theorem cf_eq {T U : Nat → Int32} {o : Nat} : ∀ k, (∀ i, i < k → T (o + i) = U (o + i)) → cf T o k = cf U o k := by
  intro k
  induction k with
  | zero => intro _; rfl
  | succ k ih =>
    intro h
    show (if T (o + k) = 0 then cf T o k + 1 else cf T o k) = (if U (o + k) = 0 then cf U o k + 1 else cf U o k)
    rw [h k (by omega), ih (fun i hi => h i (by omega))]
theorem pm_free0 {σ : ck_S} : fX0_countFree 0 200 σ = some (cf (ck_cells σ) 1128 200) := by
  unfold fX0_countFree
  refine qp2_for (fun k => cf (ck_cells σ) 1128 k) (fun k => nI (k + 1)) (i := 0) (N := 200) (by omega) (by omega) (fun k h1 h2 rec => ?_) (fun rec => ?_)
  · show (if 200 < nI (k + 1) then _ else (fX5_bitOf 0 (nI (k + 1)) σ).bind fun v4 => if v4 = 0 then _ else _) = rec (if ck_cells σ (1128 + k) = 0 then cf (ck_cells σ) 1128 k + 1 else cf (ck_cells σ) 1128 k) (nI (k + 1 + 1))
    rw [if_neg (unl 200 200 (k + 1)), pm_bitOf0 h2, Option.bind_some, pm_s1]
    by_cases h : ck_cells σ (1128 + k) = 0
    · rw [if_pos h, if_pos h]
    · rw [if_neg h, if_neg h]
  · show (if 200 < nI 201 then _ else _) = _
    rw [if_pos (by decide)]
theorem pm_free1 {σ : ck_S} : fX0_countFree 1 24 σ = some (cf (ck_cells σ) 1328 24) := by
  unfold fX0_countFree
  refine qp2_for (fun k => cf (ck_cells σ) 1328 k) (fun k => nI (k + 1)) (i := 0) (N := 24) (by omega) (by omega) (fun k h1 h2 rec => ?_) (fun rec => ?_)
  · show (if 24 < nI (k + 1) then _ else (fX5_bitOf 1 (nI (k + 1)) σ).bind fun v4 => if v4 = 0 then _ else _) = rec (if ck_cells σ (1328 + k) = 0 then cf (ck_cells σ) 1328 k + 1 else cf (ck_cells σ) 1328 k) (nI (k + 1 + 1))
    rw [if_neg (unl 24 24 (k + 1)), pm_bitOf1 h2, Option.bind_some, pm_s1]
    by_cases h : ck_cells σ (1328 + k) = 0
    · rw [if_pos h, if_pos h]
    · rw [if_neg h, if_neg h]
  · show (if 24 < nI 25 then _ else _) = _
    rw [if_pos (by decide)]
theorem rz_b0 {z : Nat → Int32} {σ : ck_S} {ρ : mk_S} {k : Nat} (h : Rz z σ ρ) (hk : k < 200) : mk_rd_all ρ (1200 + nI (k + 1)) = some (ck_cells σ (1128 + k)) := by
  rw [show (1200 : Int32) = nI 1200 from rfl, nI_add, show 1200 + (k + 1) = 1201 + k by omega, pm_mrd (by omega), ← Rz_r h (show 1128 + k < 1355 by omega), io2 hk]
theorem rz_b1 {z : Nat → Int32} {σ : ck_S} {ρ : mk_S} {k : Nat} (h : Rz z σ ρ) (hk : k < 24) : mk_rd_all ρ (1401 + nI (k + 1)) = some (ck_cells σ (1328 + k)) := by
  rw [show (1401 : Int32) = nI 1401 from rfl, nI_add, show 1401 + (k + 1) = 1402 + k by omega, pm_mrd (by omega), ← Rz_r h (show 1328 + k < 1355 by omega), io3 (by omega)]
theorem pm_mfree {z : Nat → Int32} {σ : ck_S} {ρ : mk_S} (h : Rz z σ ρ) : qp2 FU (fun rec149 (x7 : Int32) (x8 : Int32) =>
            if 200 < x8 then (
              qp2 FU (fun rec179 (x10 : Int32) (x11 : Int32) =>
                if 24 < x11 then (
                  (mk_wr_all ρ 1426 x7).bind fun σ13 =>
                  (mk_wr_all σ13 1427 x10).bind fun σ14 =>
                  some σ14
                  ) else (
                  (mk_rd_all ρ (1401 + x11)).bind fun v15 =>
                  rec179 (x10 + (1 - v15)) (x11 + 1)
                  )
                ) 0 1
              ) else (
              (mk_rd_all ρ (1200 + x8)).bind fun v16 =>
              rec149 (x7 + (1 - v16)) (x8 + 1)
              )
            ) 0 1 = some (mw (mw ρ 1426 (cf (ck_cells σ) 1128 200)) 1427 (cf (ck_cells σ) 1328 24)) := by
  refine qp2_for (fun k => cf (ck_cells σ) 1128 k) (fun k => nI (k + 1)) (i := 0) (N := 200) (by omega) (by omega) (fun k h1 h2 rec => ?_) (fun rec => ?_)
  · show (if 200 < nI (k + 1) then _ else (mk_rd_all ρ (1200 + nI (k + 1))).bind fun v16 => _) = _
    rw [if_neg (unl 200 200 (k + 1)), rz_b0 h h2, Option.bind_some, pm_s1, ← cf_m (h.2.2.2 _ (by omega) (by omega))]
  · show (if 200 < nI 201 then _ else _) = _
    rw [if_pos (by decide)]
    refine qp2_for (fun k => cf (ck_cells σ) 1328 k) (fun k => nI (k + 1)) (i := 0) (N := 24) (by omega) (by omega) (fun k h1 h2 rec => ?_) (fun rec => ?_)
    · show (if 24 < nI (k + 1) then _ else (mk_rd_all ρ (1401 + nI (k + 1))).bind fun v16 => _) = _
      rw [if_neg (unl 24 24 (k + 1)), rz_b1 h h2, Option.bind_some, pm_s1, ← cf_m (h.2.2.2 _ (by omega) (by omega))]
    · show (if 24 < nI 25 then _ else _) = _
      rw [if_pos (by decide), show mk_wr_all ρ 1426 _ = _ from pm_mwr (j := 1426) (by omega), Option.bind_some, show mk_wr_all (mw ρ 1426 _) 1427 _ = _ from pm_mwr (j := 1427) (by omega), Option.bind_some]
theorem pp5 : ps_ok fX0_mend fX8_checkBits (fun σ _ => Vr (ck_cells σ)) (fun _ _ => True) := by
  refine ps_of (fun z σ ρ M B hR hM hB hV => ?_)
  unfold fX0_mend fX8_checkBits
  refine rl2 (fun k x s y r => x = nI (k + 1) ∧ y = nI (k + 1) ∧ B5 z M B s r) (N := 200) (by omega) ⟨rfl, rfl, hR, hM, hB, hV⟩ (fun k hk x s y r hI rc rm hn => ?_) (fun x s y r hI rc rm => ?_)
  · obtain ⟨rfl, rfl, hI⟩ := hI
    rw [if_neg (unl 200 200 (k + 1)), if_neg (unl 200 200 (k + 1)), jn_app, jn_app]
    have e : ∀ v, mk_wr_all r (1200 + nI (k + 1)) v = some (mw r (io (1128 + k)) v) := fun v => by
      rw [show (1200 : Int32) = nI 1200 from rfl, nI_add, show 1200 + (k + 1) = 1201 + k by omega, pm_mwr (by omega), io2 hk]
    by_cases c : k < 8
    · rw [if_neg (unl 8 8 (k + 1)), if_neg (show ¬ (9 : Int32) ≤ nI (k + 1) from nI_ge (b := 9) (by omega) (by omega))]
      dsimp only
      rw [pm_putBit0 hk, Option.bind_some, e, Option.bind_some, pm_s1]
      exact hn _ _ _ _ ⟨rfl, rfl, B5_w hI (by omega) (by omega) (fun _ => Or.inr rfl)⟩
    · rw [if_pos (show (8 : Int32) < nI (k + 1) from nI_lt (a := 8) (by omega) (by omega)), if_pos (show (9 : Int32) ≤ nI (k + 1) from nI_le (a := 9) (by omega) (by omega))]
      dsimp only
      rw [pm_putBit0 hk, Option.bind_some, e, Option.bind_some, pm_s1]
      exact hn _ _ _ _ ⟨rfl, rfl, B5_w hI (by omega) (by omega) (fun _ => Or.inl rfl)⟩
  · obtain ⟨rfl, rfl, hI⟩ := hI
    rw [if_pos (show (200 : Int32) < nI (200 + 1) by decide), if_pos (show (200 : Int32) < nI (200 + 1) by decide)]
    refine rl2 (fun k x s y r => x = nI (k + 1) ∧ y = nI (k + 1) ∧ B5 z M B s r) (N := 24) (by omega) ⟨rfl, rfl, hI⟩ (fun g hg x s y r hI rc rm hn => ?_) (fun x s y r hI rc rm => ?_)
    · obtain ⟨rfl, rfl, hI⟩ := hI
      rw [if_neg (pm_f2 hg), if_neg (pm_f2 hg), pm_k0 hg, Option.bind_some, rz_kind hI.1 hg, Option.bind_some, jn_app, jn_app]
      have e : ∀ v, mk_wr_all r (1401 + nI (g + 1)) v = some (mw r (io (1328 + g)) v) := fun v => by
        rw [show (1401 : Int32) = nI 1401 from rfl, nI_add, show 1401 + (g + 1) = 1402 + g by omega, pm_mwr (by omega), io3 (by omega)]
      have key : ∀ v : Int32, v = 0 ∨ v = 1 → B5 z M B (cw s (1328 + g) v) (mw r (io (1328 + g)) v) := fun v hv => B5_w hI (by omega) (by omega) (fun _ => hv)
      have loop : ∀ s2 r2, B5 z M B s2 r2 → rl (fun σ1 ρ1 => Rz z σ1 ρ1 ∧ ck_memory σ1 = M ∧ mk_before ρ1 = B ∧ True) (qp2 FU (fun rec62 (x14 : Int32) (σ15 : ck_S) =>
              if 6 ≤ x14 then (
                rc (nI (g + 1) + 1) σ15
                ) else (
                (fX5_runPart (nI (g + 1)) x14 2 σ15).bind fun v17 =>
                (fX5_runPart (nI (g + 1)) x14 1 σ15).bind fun v18 =>
                (fX0_takeBlocks v17 v18 σ15).bind fun σ19 =>
                rec62 (x14 + 1) σ19
                )
              ) 0 s2) (qp2 FU (fun rec69 (x20 : Int32) (σ21 : mk_S) =>
              if 6 ≤ x20 then (
                rm (nI (g + 1) + 1) σ21
                ) else (
                (fX8_runAt (nI (g + 1)) x20).bind fun v23 =>
                (mk_rd_all σ21 (v23 + 2)).bind fun v24 =>
                qp2 FU (fun rec91 (x25 : Int32) (σ26 : mk_S) =>
                  (mk_rd_all σ26 (v23 + 2)).bind fun v27 =>
                  (mk_rd_all σ26 (v23 + 1)).bind fun v28 =>
                  if (v27 + v28) ≤ x25 then (
                    rec69 (x20 + 1) σ26
                    ) else (
                    (mk_wr_all σ26 (1200 + x25) 1).bind fun σ30 =>
                    rec91 (x25 + 1) σ30
                    )
                  ) v24 σ21
                )
              ) 0 r2) := by
        intro s2 r2 hI2
        refine rl2 (fun k x s y r => x = nI k ∧ y = nI k ∧ B5 z M B s r) (N := 6) (by omega) ⟨rfl, rfl, hI2⟩ (fun k hk x s y r hI rc2 rm2 hn2 => ?_) (fun x s y r hI rc2 rm2 => ?_)
        · obtain ⟨rfl, rfl, hI⟩ := hI
          obtain ⟨a, n, v1, v2, v3, v4, v5⟩ := hI.2.2.2 g hg k hk
          have w2 : mk_all r (g * 47 + 52 + k * 3 + 2) = nI a := by
            rw [← v1, ← Rz_r hI.1 (show g * 47 + 5 + k * 3 + 2 < 1355 by omega), io1 (by omega)]; exact congrArg (mk_all r) (by omega)
          have w1 : mk_all r (g * 47 + 52 + k * 3 + 1) = nI n := by
            rw [← v2, ← Rz_r hI.1 (show g * 47 + 5 + k * 3 + 1 < 1355 by omega), io1 (by omega)]; exact congrArg (mk_all r) (by omega)
          rw [if_neg (show ¬ (6 : Int32) ≤ nI k from nI_ge (b := 6) hk (by omega)), if_neg (show ¬ (6 : Int32) ≤ nI k from nI_ge (b := 6) hk (by omega)), show fX5_runPart (nI (g + 1)) (nI k) 2 s = _ from pm_runPart (q := 2) hg hk (by omega), Option.bind_some, show fX5_runPart (nI (g + 1)) (nI k) 1 s = _ from pm_runPart (q := 1) hg hk (by omega), Option.bind_some, v1, v2, pm_take v3 v4 v5, Option.bind_some, pm_runAt, Option.bind_some, show mk_rd_all r (nI (g * 47 + 52 + k * 3) + 2) = some (nI a) from by rw [pm_s2, pm_mrd (by omega), w2], Option.bind_some, pm_mtake v3 v4 (by omega) w2 w1, pm_s1]
          exact hn2 _ _ _ _ ⟨rfl, rfl, B5_t hI v4 v5⟩
        · obtain ⟨rfl, rfl, hI⟩ := hI
          rw [if_pos (show (6 : Int32) ≤ nI 6 by decide), if_pos (show (6 : Int32) ≤ nI 6 by decide), pm_s1]
          exact hn _ _ _ _ ⟨rfl, rfl, hI⟩
      by_cases c : ck_cells s (g * 47) = 0
      · rw [if_pos c, if_pos c]
        dsimp only
        rw [pm_putBit1 hg, Option.bind_some, e, Option.bind_some]
        exact loop _ _ (key 0 (Or.inl rfl))
      · rw [if_neg c, if_neg c]
        dsimp only
        rw [pm_putBit1 hg, Option.bind_some, e, Option.bind_some]
        exact loop _ _ (key 1 (Or.inr rfl))
    · obtain ⟨rfl, rfl, hI⟩ := hI
      rw [if_pos (show (24 : Int32) < nI (24 + 1) by decide), if_pos (show (24 : Int32) < nI (24 + 1) by decide), pm_free0, Option.bind_some, show fX5_putTold 0 _ s = _ from pm_putTold (w := 0) (by omega), Option.bind_some, pm_free1, Option.bind_some, show fX5_putTold 1 _ (cw s (1352 + 0) _) = _ from pm_putTold (w := 1) (by omega), Option.bind_some, pm_mfree hI.1]
      have h1 := B5_w (v := cf (ck_cells s) 1128 200) hI (i := 1328 + 24) (by omega) (by omega) (by omega)
      have h2 := B5_w (v := cf (ck_cells (cw s (1352 + 0) (cf (ck_cells s) 1128 200))) 1328 24) h1 (i := 1328 + 25) (by omega) (by omega) (by omega)
      rw [io3 (by omega), io3 (by omega)] at h2
      have e3 : cf (ck_cells (cw s (1352 + 0) (cf (ck_cells s) 1128 200))) 1328 24 = cf (ck_cells s) 1328 24 := cf_eq 24 (fun i hi => pk_un (by omega))
      rw [e3] at h2 ⊢
      exact rl_ret ⟨h2.1, h2.2.1, h2.2.2.1, trivial⟩
