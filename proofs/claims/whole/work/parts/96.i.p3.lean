/-! the third pass -/
def mwo (T : Nat → Int32) (g : Nat) : Prop := T (g * 47) ≠ 0 ∧ T (g * 47) ≠ 2 ∧ ∀ h, h < 24 → ∀ j, j < 8 → T (h * 47 + 23 + j * 3 + 1) ≠ nI (g + 1)
def LG (L : List Nat) (P : Nat → Bool) (s : ck_S) (r : mk_S) : Prop := (∀ f, f < 25 → mk_rightly r f = ck_rightly s f ∧ (ck_rightly s f = 0 ∨ ck_rightly s f = 1)) ∧ Ls r L ∧ Lc s (L.filter P) ∧ ∀ g, g ∈ L → (P g = true ↔ ck_rightly s (g + 1) ≠ 0 ∧ ck_held s (g + 1) ≠ 0)
def GO (k : Nat) (s : ck_S) (r : mk_S) : Prop := (∀ g, g < 24 → g < k → (mk_goesOn r (g + 1) ≠ 0 ↔ ck_rightly s (g + 1) ≠ 0 ∧ ck_held s (g + 1) ≠ 0)) ∧ ∀ g, g < 24 → k ≤ g → mk_goesOn r (g + 1) = 0
def MK (k : Nat) (s : ck_S) : Prop := (∀ g, g < 24 → k ≤ g → ck_rightly s (g + 1) ≠ 0 → mwo (ck_cells s) g) ∧ ∀ g, g < 24 → (ck_reached s (g + 1) ≠ 0 ↔ Ac (ck_cells s) 0 g)
def P3 (z M B : Nat → Int32) (L : List Nat) (P : Nat → Bool) (k : Nat) (s : ck_S) (r : mk_S) : Prop := Rz z s r ∧ ck_memory s = M ∧ mk_before r = B ∧ Sx (ck_cells s) ∧ LG L P s r ∧ GO k s r ∧ MK k s
def I3 (σ : ck_S) (ρ : mk_S) : Prop := Sx (ck_cells σ) ∧ ∃ (L : List Nat) (P : Nat → Bool), Ls ρ L ∧ Lc σ (L.filter P) ∧ ∀ g, g ∈ L → (mk_goesOn ρ (g + 1) ≠ 0 ↔ P g = true)
theorem LG_fr {L : List Nat} {P : Nat → Bool} {σ s : ck_S} {r : mk_S} (h : LG L P σ r) (f : Fr3 σ s) : LG L P s r := by
  obtain ⟨f1, f2, f3, f4, f5, f6⟩ := f
  obtain ⟨h1, h2, h3, h4⟩ := h
  refine ⟨by rw [f4]; exact h1, h2, ?_, by rw [f4, f3]; exact h4⟩
  unfold Lc
  rw [f5, f6]; exact h3
theorem GO_fr {k : Nat} {σ s : ck_S} {r : mk_S} (h : GO k σ r) (f : Fr3 σ s) : GO k s r := by
  obtain ⟨f1, f2, f3, f4, f5, f6⟩ := f
  unfold GO
  rw [f4, f3]; exact h
theorem Rz_fr {z : Nat → Int32} {σ s : ck_S} {r : mk_S} (h : Rz z σ r) (f : Fr3 σ s) : Rz z s r := by
  obtain ⟨f1, f2, f3, f4, f5, f6⟩ := f
  unfold Rz
  rw [f1, f3]; exact h
theorem GO_next {k : Nat} {s : ck_S} {r : mk_S} (h : GO k s r) (hk : k < 24) (q : ¬ (ck_rightly s (k + 1) ≠ 0 ∧ ck_held s (k + 1) ≠ 0)) : GO (k + 1) s r := by
  refine ⟨fun g hg gk => ?_, fun g hg gk => h.2 g hg (by omega)⟩
  rcases Nat.lt_or_ge g k with c | c
  · exact h.1 g hg c
  · have e : g = k := by omega
    subst e
    exact ⟨fun a => absurd (h.2 g hg (by omega)) a, fun a => absurd a q⟩
theorem GO_set {k : Nat} {s : ck_S} {r : mk_S} (h : GO k s r) (hk : k < 24) (q : ck_rightly s (k + 1) ≠ 0 ∧ ck_held s (k + 1) ≠ 0) : GO (k + 1) s (mk_set_goesOn r (upd (mk_goesOn r) (k + 1) 1)) := by
  refine ⟨fun g hg gk => ?_, fun g hg gk => ?_⟩
  · show upd (mk_goesOn r) (k + 1) 1 (g + 1) ≠ 0 ↔ _
    rcases Nat.lt_or_ge g k with c | c
    · rw [pk_un (by omega)]; exact h.1 g hg c
    · have e : g = k := by omega
      subst e
      rw [pk_us]; exact ⟨fun _ => q, fun _ => by decide⟩
  · show upd (mk_goesOn r) (k + 1) 1 (g + 1) = 0
    rw [pk_un (by omega)]; exact h.2 g hg (by omega)
theorem MK_next {k : Nat} {s : ck_S} (h : MK k s) : MK (k + 1) s := ⟨fun g hg gk => h.1 g hg (by omega), h.2⟩
theorem rl_ri {s : ck_S} {f : Nat} {v : Int32} (hf : f < 25) (h : ck_rightly s f = v) (hv : v = 0 ∨ v = 1) : fX6_isRightlyIn (nI f) s = some v := by
  unfold fX6_isRightlyIn
  rw [cr_rightly hf, Option.bind_some, h]
  unfold ik_zb
  rw [if_pos hv]
theorem P3_wipe {z M B : Nat → Int32} {L : List Nat} {P : Nat → Bool} {k : Nat} {s : ck_S} {r : mk_S} (h : P3 z M B L P k s r) (hk : k < 24) (hw : mwo (ck_cells s) k) (hh : ck_held s (k + 1) = 0) : P3 z M B L P (k + 1) (cz s (k * 47) (k * 47 + 47)) (mz r (k * 47 + 47) (k * 47 + 47 + 47)) := by
  obtain ⟨hR, hM, hB, hS, hL, hG, hK⟩ := h
  have k1 : 1 ≤ k := by
    rcases Nat.eq_zero_or_pos k with q | q
    · subst q; exact absurd hS.2.1 hw.2.1
    · exact q
  have nA := Ac_no hk k1 hw.2.2
  have out : ∀ g, g < 24 → g ≠ k → ∀ i, g * 47 ≤ i → i < g * 47 + 47 → wz (ck_cells s) (k * 47) (k * 47 + 47) i = ck_cells s i := fun g _ q i i1 i2 => wz_out (by rcases Nat.lt_or_ge g k with q | q <;> omega)
  have acW : ∀ x, Ac (ck_cells s) 0 x ↔ Ac (wz (ck_cells s) (k * 47) (k * 47 + 47)) 0 x := Ac_eq (fun g hg ha j hj => out g hg (fun q => nA (q ▸ ha)) _ (by omega) (by omega))
  refine ⟨Rz_z hR (by omega), hM, hB, Sx_wipe hS hk k1 hw.2.2, hL, GO_next hG hk (fun q => q.2 hh), fun g hg gk q => ?_, fun g hg => (hK.2 g hg).trans (acW g)⟩
  obtain ⟨a, b, c⟩ := hK.1 g hg (by omega) q
  have e : wz (ck_cells s) (k * 47) (k * 47 + 47) (g * 47) = ck_cells s (g * 47) := out g hg (by omega) _ (by omega) (by omega)
  refine ⟨?_, ?_, fun x hx j hj => ?_⟩
  · show wz (ck_cells s) (k * 47) (k * 47 + 47) (g * 47) ≠ 0
    rw [e]; exact a
  · show wz (ck_cells s) (k * 47) (k * 47 + 47) (g * 47) ≠ 2
    rw [e]; exact b
  · show wz (ck_cells s) (k * 47) (k * 47 + 47) (x * 47 + 23 + j * 3 + 1) ≠ nI (g + 1)
    by_cases q : x = k
    · subst q
      rw [wz_in (by omega) (by omega)]
      exact fun q => nI_ne0 (n := g + 1) (by omega) (by omega) q.symm
    · rw [out x hx q _ (by omega) (by omega)]; exact c x hx j hj
theorem pp3 : ps_ok (fun σ => (fX6_gather σ).bind fX2_mend) fX8_checkHanging I2 I3 := by
  refine ps_of (fun z σ ρ M B hR hM hB hI => ?_)
  unfold fX8_checkHanging
  refine rl_bd (gather_rl hR hM hB hI) (fun s r hW => ?_)
  obtain ⟨hR, hM, hB, hS, hri, hmw, hgo, L, P, hL, hC, hP⟩ := hW
  unfold fX2_mend
  rw [pm_unmark10, Option.bind_some]
  refine rl_c (show ok _ (fX2_reachFrom 1 _) from rfrom_ok (p := 0) (by omega)) (fun s2 h2 => ?_)
  obtain ⟨f1, f2, f3, f4, f5⟩ := h2
  have z0 : ∀ g, g < 24 → ck_reached (ck_set_reached s (wz (ck_reached s) 0 25)) (g + 1) = 0 := fun g hg => by
    show wz (ck_reached s) 0 25 (g + 1) = 0
    rw [wz_in (by omega) (by omega)]
  have c2 : ck_cells s2 = ck_cells s := f1.1
  have start : P3 z M B L P 0 s2 r := by
    refine ⟨Rz_fr (show Rz z (ck_set_reached s (wz (ck_reached s) 0 25)) r from hR) f1, f1.2.1.trans hM, hB, by rw [c2]; exact hS, LG_fr (show LG L P (ck_set_reached s (wz (ck_reached s) 0 25)) r from ⟨hri, hL, hC, hP⟩) f1, ⟨fun g _ q => absurd q (by omega), fun g hg _ => hgo _ (by omega)⟩, fun g hg _ q => ?_, fun g hg => ⟨fun q => ?_, fun q => ?_⟩⟩
    · rw [f1.2.2.2.1] at q
      obtain ⟨a, b, -, c⟩ := hmw g hg q
      rw [c2]; exact ⟨a, b, c⟩
    · rw [c2]
      exact (f4 g hg q).resolve_left (fun a => a (z0 g hg))
    · rw [c2] at q
      exact q (fun g => ck_reached s2 (g + 1) ≠ 0) f3 (fun g hg a k hk y hy ey => f5 g hg a (z0 g hg) k hk y hy ey)
  refine rl2 (fun k x s y r => x = nI (k + 1) ∧ y = nI (k + 1) ∧ P3 z M B L P k s r) (N := 24) (by omega) ⟨rfl, rfl, start⟩ (fun k hk x s y r hI rc rm hn => ?_) (fun x s y r hI rc rm => ?_)
  · obtain ⟨rfl, rfl, hI⟩ := hI
    obtain ⟨hR, hM, hB, hS, hL, hG, hK⟩ := hI
    rw [if_neg (pm_f2 hk), if_neg (pm_f2 hk), pm_k0 hk, Option.bind_some]
    refine rl_m (freach_ok hR hS) (fun r5 h5 => ?_)
    obtain ⟨R, rfl, hRr⟩ := h5
    have hR5 : Rz z s (mk_set_reached r R) := hR
    have hI5 : P3 z M B L P k s (mk_set_reached r R) := ⟨hR, hM, hB, hS, hL, hG, hK⟩
    rw [rz_kind hR5 hk, Option.bind_some]
    by_cases c1 : ck_cells s (k * 47) = 0
    · rw [if_pos c1, if_pos c1, pm_s1]
      exact hn _ _ _ _ ⟨rfl, rfl, hR, hM, hB, hS, hL, GO_next hG hk (fun q => (hK.1 k hk (by omega) q.1).1 c1), MK_next hK⟩
    rw [if_neg c1, if_neg c1, cr_reached (by omega), Option.bind_some, mr_rr (by omega), Option.bind_some]
    by_cases c2 : ck_reached s (k + 1) = 0
    · have c3 : R (k + 1) = 0 := Classical.byContradiction fun q => (hK.2 k hk).mpr ((hRr k hk).mp q) c2
      have k1 : 1 ≤ k := by
        rcases Nat.eq_zero_or_pos k with q | q
        · subst q; exact absurd c2 ((hK.2 0 hk).mpr Ac_p)
        · exact q
      rw [if_pos c2, if_pos c3, rl_ri (by omega) rfl (hL.1 (k + 1) (by omega)).2, Option.bind_some, mr_rightly (by omega), Option.bind_some, show mk_rightly (mk_set_reached r R) (k + 1) = ck_rightly s (k + 1) from (hL.1 (k + 1) (by omega)).1]
      by_cases c4 : ck_rightly s (k + 1) = 0
      · rw [if_pos c4, if_pos c4]
        refine rl_bd (hang_rl hR5 hS hk k1 c1 hK.2 c2) (fun s7 r7 h7 => ?_)
        obtain ⟨V, g1, rfl, g3, g4, g5, g6, g7⟩ := h7
        have cV : ck_cells s7 = V := g1.1
        rw [pm_s1]
        refine hn _ _ _ _ ⟨rfl, rfl, Rz_fr (Rz_set hR5 g4) g1, g1.2.1.trans hM, hB, by rw [cV]; exact g3, LG_fr (show LG L P (ck_set_cells s V) (mk_set_all (mk_set_reached r R) (mA V z)) from hL) g1, GO_fr (show GO (k + 1) (ck_set_cells s V) (mk_set_all (mk_set_reached r R) (mA V z)) from GO_next hG hk (fun q => q.1 c4)) g1, fun g hg gk q => ?_, fun g hg => by rw [cV]; exact g7 g hg⟩
        rw [g1.2.2.2.1] at q
        obtain ⟨a, b, c⟩ := hK.1 g hg (by omega) q
        rw [cV]
        refine ⟨by rw [g5 g hg (by omega)]; exact a, by rw [g5 g hg (by omega)]; exact b, fun x hx j hj e => ?_⟩
        rcases g6 x hx j hj g hg e with d | ⟨i, i1, i2⟩
        · omega
        · exact c x hx i i1 i2
      · have mw := hK.1 k hk (by omega) c4
        rw [if_neg c4, if_neg c4, cr_held (by omega), Option.bind_some, mr_held (by omega), Option.bind_some, show mk_held (mk_set_reached r R) (k + 1) = ck_held s (k + 1) from hR.2.1 _ (by omega)]
        by_cases c5 : ck_held s (k + 1) = 0
        · rw [if_pos c5, if_pos c5, pm_wf hk, Option.bind_some, pm_drop hk, Option.bind_some, pm_s1]
          exact hn _ _ _ _ ⟨rfl, rfl, P3_wipe hI5 hk mw c5⟩
        · rw [if_neg c5, if_neg c5, mr_w_goesOn (by omega) (Or.inr rfl), Option.bind_some, pm_s1]
          exact hn _ _ _ _ ⟨rfl, rfl, hR, hM, hB, hS, hL, GO_set (r := mk_set_reached r R) hG hk ⟨c4, c5⟩, MK_next hK⟩
    · have c3 : ¬ R (k + 1) = 0 := (hRr k hk).mpr ((hK.2 k hk).mp c2)
      rw [if_neg c2, if_neg c3, pm_s1]
      refine hn _ _ _ _ ⟨rfl, rfl, hR, hM, hB, hS, hL, GO_next hG hk (fun q => ?_), MK_next hK⟩
      have mw := hK.1 k hk (by omega) q.1
      rcases Nat.eq_zero_or_pos k with k0 | k0
      · subst k0; exact mw.2.1 hS.2.1
      · exact Ac_no hk k0 mw.2.2 ((hK.2 k hk).mp c2)
  · obtain ⟨rfl, rfl, hI⟩ := hI
    obtain ⟨hR, hM, hB, hS, hL, hG, hK⟩ := hI
    rw [if_pos (ult 24 24 (24 + 1)), if_pos (ult 24 24 (24 + 1))]
    exact rl_ret ⟨hR, hM, hB, hS, L, P, hL.2.1, hL.2.2.1, fun g hg => (hG.1 g (hL.2.1.1 g hg) (hL.2.1.1 g hg)).trans (hL.2.2.2 g hg).symm⟩
theorem sp3 : ps_st I3 := fun _ _ h => h
