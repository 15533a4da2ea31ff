/-! what is reached: the class -/
def Cl (T : Nat → Int32) (S : Nat → Prop) : Prop := ∀ g, g < 24 → S g → ∀ k, k < 8 → ∀ h, h < 24 → T (g * 47 + 23 + k * 3 + 1) = nI (h + 1) → S h
def Ac (T : Nat → Int32) (p h : Nat) : Prop := ∀ S : Nat → Prop, S p → Cl T S → S h
theorem Ac_p {T : Nat → Int32} {p : Nat} : Ac T p p := fun _ h _ => h
theorem Ac_cl {T : Nat → Int32} {p : Nat} : Cl T (Ac T p) := fun g hg hA k hk h hh e S h1 h2 => h2 g hg (hA S h1 h2) k hk h hh e
def Fr3 (σ s : ck_S) : Prop := ck_cells s = ck_cells σ ∧ ck_memory s = ck_memory σ ∧ ck_held s = ck_held σ ∧ ck_rightly s = ck_rightly σ ∧ ck_waitOn s = ck_waitOn σ ∧ ck_count s = ck_count σ
def Bq (σ : ck_S) (p : Nat) (s : ck_S) (q : Nat) : Prop := Fr3 σ s ∧ (ck_queued s = nI q ∧ q ≤ cnt (ck_reached s) 24) ∧ (∀ g, g < 24 → ck_reached σ (g + 1) ≠ 0 → ck_reached s (g + 1) ≠ 0) ∧ (∀ i, i < q → ∃ g, g < 24 ∧ ck_queue s i = nI (g + 1) ∧ ck_reached s (g + 1) ≠ 0 ∧ Ac (ck_cells σ) p g) ∧ ∀ g, g < 24 → ck_reached s (g + 1) ≠ 0 → ck_reached σ (g + 1) ≠ 0 ∨ ∃ i, i < q ∧ ck_queue s i = nI (g + 1)
theorem reach_ok {σ s : ck_S} {p q : Nat} {v : Int32} (h : Bq σ p s q) (hv : ∀ h, h < 24 → v = nI (h + 1) → Ac (ck_cells σ) p h) : ok (fun s1 => ∃ q1, q ≤ q1 ∧ Bq σ p s1 q1 ∧ (∀ g, g < 24 → ck_reached s (g + 1) ≠ 0 → ck_reached s1 (g + 1) ≠ 0) ∧ (∀ i, i < q → ck_queue s1 i = ck_queue s i) ∧ ∀ h, h < 24 → v = nI (h + 1) → ck_reached s1 (h + 1) ≠ 0) (fX2_reach v s) := by
  have h10 : ¬ (1 : Int32) = 0 := by decide
  unfold fX2_reach
  rcases ix_file v with c | ⟨g, hg, rfl⟩
  · rw [pm_isFile0 c, Option.bind_some, if_pos rfl]
    refine ok_ret ⟨q, Nat.le_refl _, h, fun _ _ a => a, fun _ _ => rfl, fun x hx e => ?_⟩
    rw [e] at c
    rcases c with c | c
    · exact absurd c (pm_f1 hx)
    · exact absurd c (pm_f2 hx)
  · rw [pm_isFile1 hg, Option.bind_some, if_neg h10, cr_reached (by omega), Option.bind_some]
    obtain ⟨hF, ⟨hq, hc⟩, hm, hv2, hw⟩ := h
    by_cases c : ck_reached s (g + 1) = 0
    · have lt := cnt_lt c 24 hg
      rw [if_pos c, hq, if_neg (uge 24 24 q), cr_w_reached (by omega) (Or.inr rfl), Option.bind_some]
      rw [show ck_queued (ck_set_reached s (upd (ck_reached s) (g + 1) 1)) = nI q from hq, cr_w_queue (by omega), Option.bind_some]
      rw [show ck_queued (ck_set_queue (ck_set_reached s (upd (ck_reached s) (g + 1) 1)) (upd (ck_queue (ck_set_reached s (upd (ck_reached s) (g + 1) 1))) q (nI (g + 1)))) = nI q from hq, Option.bind_some, pm_s1]
      have mono : ∀ x, ck_reached s (x + 1) ≠ 0 → upd (ck_reached s) (g + 1) 1 (x + 1) ≠ 0 := fun x a => by
        by_cases e : x = g
        · subst e; rw [pk_us]; exact h10
        · rw [pk_un (by omega)]; exact a
      refine ok_ret ⟨q + 1, by omega, ⟨hF, ⟨rfl, ?_⟩, fun x hx a => mono x (hm x hx a), fun i hi => ?_, fun x hx a => ?_⟩, fun x _ a => mono x a, fun i hi => ?_, fun x hx e => ?_⟩
      · show q + 1 ≤ cnt (upd (ck_reached s) (g + 1) 1) 24
        rw [cnt_up c 24 hg]; omega
      · show ∃ x, x < 24 ∧ upd (ck_queue s) q (nI (g + 1)) i = nI (x + 1) ∧ upd (ck_reached s) (g + 1) 1 (x + 1) ≠ 0 ∧ Ac (ck_cells σ) p x
        rcases Nat.lt_or_ge i q with b | b
        · obtain ⟨x, x1, x2, x3, x4⟩ := hv2 i b
          exact ⟨x, x1, by rw [pk_un (by omega)]; exact x2, mono x x3, x4⟩
        · rw [show i = q by omega]
          exact ⟨g, hg, pk_us, by rw [pk_us]; exact h10, hv g hg rfl⟩
      · have a2 : upd (ck_reached s) (g + 1) 1 (x + 1) ≠ 0 := a
        show ck_reached σ (x + 1) ≠ 0 ∨ ∃ i, i < q + 1 ∧ upd (ck_queue s) q (nI (g + 1)) i = nI (x + 1)
        by_cases e : x = g
        · subst e; exact Or.inr ⟨q, by omega, pk_us⟩
        · rw [pk_un (by omega)] at a2
          rcases hw x hx a2 with b | ⟨i, i1, i2⟩
          · exact Or.inl b
          · exact Or.inr ⟨i, by omega, by rw [pk_un (by omega)]; exact i2⟩
      · show upd (ck_queue s) q (nI (g + 1)) i = _
        rw [pk_un (by omega)]
      · have e2 : x = g := by have := (nI_eq (by omega) (by omega)).mp e; omega
        show upd (ck_reached s) (g + 1) 1 (x + 1) ≠ 0
        rw [e2, pk_us]; exact h10
    · rw [if_neg c]
      refine ok_ret ⟨q, Nat.le_refl _, ⟨hF, ⟨hq, hc⟩, hm, hv2, hw⟩, fun _ _ a => a, fun _ _ => rfl, fun x hx e => ?_⟩
      have e2 : x = g := by have := (nI_eq (by omega) (by omega)).mp e; omega
      rw [e2]; exact c
theorem rfrom_ok {σ : ck_S} {p : Nat} (hp : p < 24) : ok (fun s => Fr3 σ s ∧ (∀ g, g < 24 → ck_reached σ (g + 1) ≠ 0 → ck_reached s (g + 1) ≠ 0) ∧ ck_reached s (p + 1) ≠ 0 ∧ (∀ g, g < 24 → ck_reached s (g + 1) ≠ 0 → ck_reached σ (g + 1) ≠ 0 ∨ Ac (ck_cells σ) p g) ∧ ∀ g, g < 24 → ck_reached s (g + 1) ≠ 0 → ck_reached σ (g + 1) = 0 → ∀ k, k < 8 → ∀ h, h < 24 → ck_cells σ (g * 47 + 23 + k * 3 + 1) = nI (h + 1) → ck_reached s (h + 1) ≠ 0) (fX2_reachFrom (nI (p + 1)) σ) := by
  unfold fX2_reachFrom
  rw [Option.bind_some]
  have b0 : Bq σ p (ck_set_queued σ 0) 0 := ⟨⟨rfl, rfl, rfl, rfl, rfl, rfl⟩, ⟨rfl, Nat.zero_le _⟩, fun _ _ a => a, fun i hi => absurd hi (by omega), fun _ _ a => Or.inl a⟩
  refine ok_bd (reach_ok (v := nI (p + 1)) b0 (fun h hh e => ?_)) (fun s2 h2 => ?_)
  · have : p = h := by have := (nI_eq (by omega) (by omega)).mp e; omega
    rw [← this]; exact Ac_p
  obtain ⟨q2, -, h2b, -, -, h2p⟩ := h2
  have p2 := h2p p hp rfl
  refine ok2 (fun j x s => x = nI j ∧ ∃ q, j ≤ q ∧ Bq σ p s q ∧ ck_reached s (p + 1) ≠ 0 ∧ ∀ i, i < j → ∀ g, g < 24 → ck_queue s i = nI (g + 1) → ∀ k, k < 8 → ∀ h, h < 24 → ck_cells σ (g * 47 + 23 + k * 3 + 1) = nI (h + 1) → ck_reached s (h + 1) ≠ 0) (N := 24) (by omega) ⟨rfl, q2, by omega, h2b, p2, fun i hi => absurd hi (by omega)⟩ (fun j hj x s hI rc hn => ?_) (fun x s hI rc => ?_)
  · obtain ⟨rfl, q, jq, hb, pp, cl⟩ := hI
    have hq24 : q ≤ 24 := Nat.le_trans hb.2.1.2 (cnt_le 24)
    rw [hb.2.1.1]
    rcases Nat.lt_or_ge j q with c | c
    · rw [if_neg (nI_ge c (by omega)), if_neg (uge 24 24 j)]
      obtain ⟨g, hg, eg, -, ag⟩ := hb.2.2.2.1 j c
      refine ok2 (fun e x s1 => x = nI e ∧ ∃ q, j < q ∧ Bq σ p s1 q ∧ ck_reached s1 (p + 1) ≠ 0 ∧ ck_queue s1 j = nI (g + 1) ∧ (∀ i, i < j → ∀ g, g < 24 → ck_queue s1 i = nI (g + 1) → ∀ k, k < 8 → ∀ h, h < 24 → ck_cells σ (g * 47 + 23 + k * 3 + 1) = nI (h + 1) → ck_reached s1 (h + 1) ≠ 0) ∧ ∀ k, k < e → ∀ h, h < 24 → ck_cells σ (g * 47 + 23 + k * 3 + 1) = nI (h + 1) → ck_reached s1 (h + 1) ≠ 0) (N := 8) (by omega) ⟨rfl, q, c, hb, pp, eg, cl, fun k hk => absurd hk (by omega)⟩ (fun e he x s1 hI rc2 hn2 => ?_) (fun x s1 hI rc2 => ?_)
      · obtain ⟨rfl, q1, jq1, hb1, pp1, eg1, cl1, ce⟩ := hI
        have ec : ck_cells s1 = ck_cells σ := hb1.1.1
        rw [if_neg (uge 8 8 e), cr_queue (by omega), Option.bind_some, eg1, pm_ep1 hg he, Option.bind_some, ec]
        refine ok_bd (reach_ok hb1 (fun h hh eh => Ac_cl g hg ag e he h hh eh)) (fun s3 h3 => ?_)
        obtain ⟨q3, q13, hb3, m3, w3, t3⟩ := h3
        rw [pm_s1]
        refine hn2 _ _ ⟨rfl, q3, by omega, hb3, m3 p hp pp1, (w3 j jq1).trans eg1, fun i hi y hy ey k hk h hh eh => ?_, fun k hk h hh eh => ?_⟩
        · rw [w3 i (by omega)] at ey
          exact m3 h hh (cl1 i hi y hy ey k hk h hh eh)
        · rcases Nat.lt_or_ge k e with b | b
          · exact m3 h hh (ce k b h hh eh)
          · have : k = e := by omega
            subst this
            exact t3 h hh eh
      · obtain ⟨rfl, q1, jq1, hb1, pp1, eg1, cl1, ce⟩ := hI
        rw [if_pos (ule 8 8 8), pm_s1]
        refine hn _ _ ⟨rfl, q1, by omega, hb1, pp1, fun i hi y hy ey k hk h hh eh => ?_⟩
        rcases Nat.lt_or_ge i j with b | b
        · exact cl1 i b y hy ey k hk h hh eh
        · have : i = j := by omega
          subst this
          have e2 : y = g := by have := (nI_eq (by omega) (by omega)).mp (ey.symm.trans eg1); omega
          subst e2
          exact ce k hk h hh eh
    · rw [if_pos (nI_le c (by omega))]
      refine ok_ret ⟨hb.1, hb.2.2.1, pp, fun g hg a => ?_, fun g hg a b k hk h hh eh => ?_⟩
      · rcases hb.2.2.2.2 g hg a with d | ⟨i, i1, i2⟩
        · exact Or.inl d
        · obtain ⟨x, x1, x2, x3, x4⟩ := hb.2.2.2.1 i i1
          have e2 : g = x := by have := (nI_eq (by omega) (by omega)).mp (i2.symm.trans x2); omega
          rw [e2]; exact Or.inr x4
      · rcases hb.2.2.2.2 g hg a with d | ⟨i, i1, i2⟩
        · exact absurd b d
        · exact cl i (by omega) g hg i2 k hk h hh eh
  · obtain ⟨rfl, q, jq, hb, pp, cl⟩ := hI
    have hq24 : q ≤ 24 := Nat.le_trans hb.2.1.2 (cnt_le 24)
    rw [hb.2.1.1, if_pos (nI_le hq24 (by omega))]
    refine ok_ret ⟨hb.1, hb.2.2.1, pp, fun g hg a => ?_, fun g hg a b k hk h hh eh => ?_⟩
    · rcases hb.2.2.2.2 g hg a with d | ⟨i, i1, i2⟩
      · exact Or.inl d
      · obtain ⟨x, x1, x2, x3, x4⟩ := hb.2.2.2.1 i i1
        have e2 : g = x := by have := (nI_eq (by omega) (by omega)).mp (i2.symm.trans x2); omega
        rw [e2]; exact Or.inr x4
    · rcases hb.2.2.2.2 g hg a with d | ⟨i, i1, i2⟩
      · exact absurd b d
      · exact cl i (by omega) g hg i2 k hk h hh eh
