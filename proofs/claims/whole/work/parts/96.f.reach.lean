/-! what is reached: the reference -/
def ClR (T R : Nat → Int32) : Prop := Cl T (fun g => R (g + 1) ≠ 0)
def Rd (T R0 R : Nat → Int32) : Prop := (∀ g, g < 24 → R0 (g + 1) ≠ 0 → R (g + 1) ≠ 0) ∧ ∀ S : Nat → Prop, (∀ g, g < 24 → R0 (g + 1) ≠ 0 → S g) → Cl T S → ∀ g, g < 24 → R (g + 1) ≠ 0 → S g
theorem Rd_up {T R0 R : Nat → Int32} {a h k : Nat} (hd : Rd T R0 R) (ha : a < 24) (hm : R (a + 1) ≠ 0) (hk : k < 8) (hh : h < 24) (e : T (a * 47 + 23 + k * 3 + 1) = nI (h + 1)) : Rd T R0 (upd R (h + 1) 1) := by
  refine ⟨fun g hg q => ?_, fun S h1 h2 g hg q => ?_⟩
  · by_cases c : g = h
    · subst c; rw [pk_us]; decide
    · rw [pk_un (by omega)]; exact hd.1 g hg q
  · by_cases c : g = h
    · subst c
      exact h2 a ha (hd.2 S h1 h2 a ha hm) k hk g hg e
    · rw [pk_un (by omega)] at q; exact hd.2 S h1 h2 g hg q
theorem mono_up {R : Nat → Int32} {g h : Nat} (q : R (g + 1) ≠ 0) : upd R (h + 1) 1 (g + 1) ≠ 0 := by
  by_cases c : g = h
  · subst c; rw [pk_us]; decide
  · rw [pk_un (by omega)]; exact q
theorem mr_sr {r : mk_S} {R : Nat → Int32} {f : Nat} {v : Int32} (h : f < 25) (hv : v = 0 ∨ v = 1) : mk_wr_reached (mk_set_reached r R) (nI f) v = some (mk_set_reached r (upd R f v)) := by
  rw [mr_w_reached h hv]; rfl
theorem mr_rr {r : mk_S} {R : Nat → Int32} {f : Nat} (h : f < 25) : mk_rd_reached (mk_set_reached r R) (nI f) = some (R f) := mr_reached h
theorem freach_ok {z : Nat → Int32} {s : ck_S} {r : mk_S} (hR : Rz z s r) (hS : Sx (ck_cells s)) : ok (fun r1 => ∃ R, r1 = mk_set_reached r R ∧ ∀ g, g < 24 → (R (g + 1) ≠ 0 ↔ Ac (ck_cells s) 0 g)) (fX8_findReached r) := by
  have hRR : ∀ R, Rz z s (mk_set_reached r R) := fun _ => hR
  unfold fX8_findReached
  refine ok2 (fun k x σ => x = nI k ∧ ∃ R, σ = mk_set_reached r R ∧ ∀ f, f < k → R f = if f = 1 then 1 else 0) (N := 25) (by omega) ⟨rfl, mk_reached r, rfl, fun f hf => absurd hf (by omega)⟩ (fun k hk x σ hI rc hn => ?_) (fun x σ hI rc => ?_)
  · obtain ⟨rfl, R, rfl, hf⟩ := hI
    rw [if_neg (unl 24 24 k), jn_app]
    have key : ∀ v : Int32, (v = if k = 1 then 1 else 0) → ok (fun r1 => ∃ R, r1 = mk_set_reached r R ∧ ∀ g, g < 24 → (R (g + 1) ≠ 0 ↔ Ac (ck_cells s) 0 g)) ((mk_wr_reached (mk_set_reached r R) (nI k) v).bind fun σ23 => rc (nI k + 1) σ23) := by
      intro v ev
      rw [mr_sr hk (by rw [ev]; split <;> simp), Option.bind_some, pm_s1]
      refine hn _ _ ⟨rfl, _, rfl, fun f hf2 => ?_⟩
      by_cases c : f = k
      · subst c; rw [pk_us]; exact ev
      · rw [pk_un c]; exact hf f (by omega)
    by_cases c : k = 1
    · rw [if_pos (show nI k = 1 by rw [c]; rfl)]
      exact key 1 (by rw [if_pos c])
    · rw [if_neg (show ¬ nI k = 1 from fun q => c ((nI_eq (b := 1) (by omega) (by omega)).mp q))]
      exact key 0 (by rw [if_neg c])
  · obtain ⟨rfl, R, rfl, hf⟩ := hI
    rw [if_pos (ult 24 24 25)]
    have hR1 : R 1 = 1 := by rw [hf 1 (by omega), if_pos rfl]
    have hR0 : ∀ g, g < 24 → R (g + 1) ≠ 0 → g = 0 := fun g hg q => by
      rw [hf (g + 1) (by omega)] at q
      by_cases c : g + 1 = 1
      · omega
      · rw [if_neg c] at q; exact absurd rfl q
    have c0 : 1 ≤ cnt R 24 := by
      have := cnt_up (f := fun _ => 0) (x := 0) rfl 24 (by omega)
      have m := cnt_mono (f := upd (fun _ => 0) (0 + 1) 1) (g := R) 24 (fun x hx q => by
        by_cases c : x = 0
        · subst c; rw [hR1]; decide
        · rw [pk_un (by omega)] at q; exact absurd rfl q)
      omega
    refine ok2 (fun m x σ => x = nI m ∧ ∃ R, σ = mk_set_reached r R ∧ (∀ g, g < 24 → R (g + 1) ≠ 0 → Ac (ck_cells s) 0 g) ∧ R 1 ≠ 0 ∧ (ClR (ck_cells s) R ∨ m + 1 ≤ cnt R 24)) (N := 24) (by omega) ⟨rfl, R, rfl, fun g hg q => by rw [hR0 g hg q]; exact Ac_p, by rw [hR1]; decide, Or.inr c0⟩ (fun m hm x σ hI rc2 hn2 => ?_) (fun x σ hI rc2 => ?_)
    · obtain ⟨rfl, R0, rfl, hs0, h10, hc0⟩ := hI
      rw [if_neg (uge 24 24 m)]
      refine ok2 (fun a x σ => x = nI (a + 1) ∧ ∃ R, σ = mk_set_reached r R ∧ Rd (ck_cells s) R0 R ∧ ∀ g, g < a → R0 (g + 1) ≠ 0 → ∀ k, k < 8 → ∀ h, h < 24 → ck_cells s (g * 47 + 23 + k * 3 + 1) = nI (h + 1) → R (h + 1) ≠ 0) (N := 24) (by omega) ⟨rfl, R0, rfl, ⟨fun _ _ q => q, fun S h1 _ => h1⟩, fun g hg => absurd hg (by omega)⟩ (fun a ha x σ hI rc3 hn3 => ?_) (fun x σ hI rc3 => ?_)
      · obtain ⟨rfl, R, rfl, hd, hcl⟩ := hI
        rw [if_neg (pm_f2 ha)]
        refine ok2 (fun e x σ => x = nI e ∧ ∃ R, σ = mk_set_reached r R ∧ Rd (ck_cells s) R0 R ∧ (∀ g, g < a → R0 (g + 1) ≠ 0 → ∀ k, k < 8 → ∀ h, h < 24 → ck_cells s (g * 47 + 23 + k * 3 + 1) = nI (h + 1) → R (h + 1) ≠ 0) ∧ ∀ k, k < e → ∀ h, h < 24 → ck_cells s (a * 47 + 23 + k * 3 + 1) = nI (h + 1) → R (h + 1) ≠ 0) (N := 8) (by omega) ⟨rfl, R, rfl, hd, hcl, fun k hk => absurd hk (by omega)⟩ (fun e he x σ hI rc4 hn4 => ?_) (fun x σ hI rc4 => ?_)
        · obtain ⟨rfl, R, rfl, hd, hcl, hce⟩ := hI
          have nz : ∀ h : Nat, h < 24 → ¬ (0 : Int32) = nI (h + 1) := fun h hh q => nI_ne0 (n := h + 1) (by omega) (by omega) q.symm
          rw [if_neg (uge 8 8 e), mr_rr (by omega), Option.bind_some]
          have out : (R0 (a + 1) ≠ 0 → ∀ k, k < 8 → ∀ h, h < 24 → ck_cells s (a * 47 + 23 + k * 3 + 1) = nI (h + 1) → R (h + 1) ≠ 0) → ok (fun r1 => ∃ R, r1 = mk_set_reached r R ∧ ∀ g, g < 24 → (R (g + 1) ≠ 0 ↔ Ac (ck_cells s) 0 g)) (rc3 (nI (a + 1) + 1) (mk_set_reached r R)) := fun q => by
            rw [pm_s1]
            refine hn3 _ _ ⟨rfl, R, rfl, hd, fun g hg => ?_⟩
            rcases Nat.lt_or_ge g a with c | c
            · exact hcl g c
            · rw [show g = a by omega]; exact q
          by_cases c1 : R (a + 1) = 0
          · rw [if_pos c1]
            exact out (fun q => absurd c1 (hd.1 a ha q))
          rw [if_neg c1, rz_kind (hRR R) ha, Option.bind_some]
          by_cases c2 : ck_cells s (a * 47) = 2
          · obtain ⟨r0, r1, -⟩ := rz_ent (hRR R) ha he
            rw [if_pos c2, pm_entryAt, Option.bind_some, r0, Option.bind_some]
            rcases Sx_cs hS ha he with ⟨e0, x, x1, x2, e1, e2⟩ | ⟨e0, e1, -⟩
            · rw [if_neg (show ¬ en s a e = 0 from e0), r1, Option.bind_some, e1, mr_sr (by omega) (Or.inr rfl), Option.bind_some, pm_s1]
              refine hn4 _ _ ⟨rfl, _, rfl, Rd_up hd ha c1 he x2 e1, fun g hg b k hk h hh eh => mono_up (hcl g hg b k hk h hh eh), fun k hk h hh eh => ?_⟩
              rcases Nat.lt_or_ge k e with c | c
              · exact mono_up (hce k c h hh eh)
              · have c3 : k = e := by omega
                subst c3
                have e4 : x = h := by have := (nI_eq (by omega) (by omega)).mp (e1.symm.trans eh); omega
                rw [e4, pk_us]; decide
            · rw [if_pos (show en s a e = 0 from e0), pm_s1]
              refine hn4 _ _ ⟨rfl, R, rfl, hd, hcl, fun k hk h hh eh => ?_⟩
              rcases Nat.lt_or_ge k e with c | c
              · exact hce k c h hh eh
              · have c3 : k = e := by omega
                subst c3
                exact absurd (e1.symm.trans eh) (nz h hh)
          · rw [if_neg c2]
            exact out (fun _ k hk h hh eh => absurd ((Sx_nf hS ha hk c2).2.1.symm.trans eh) (nz h hh))
        · obtain ⟨rfl, R, rfl, hd, hcl, hce⟩ := hI
          rw [if_pos (ule 8 8 8), pm_s1]
          refine hn3 _ _ ⟨rfl, R, rfl, hd, fun g hg => ?_⟩
          rcases Nat.lt_or_ge g a with c | c
          · exact hcl g c
          · rw [show g = a by omega]; exact fun _ => hce
      · obtain ⟨rfl, R, rfl, hd, hcl⟩ := hI
        rw [if_pos (ult 24 24 (24 + 1)), pm_s1]
        refine hn2 _ _ ⟨rfl, R, rfl, fun g hg q => hd.2 (Ac (ck_cells s) 0) hs0 Ac_cl g hg q, hd.1 0 (by omega) h10, ?_⟩
        have same : (∀ g, g < 24 → R (g + 1) ≠ 0 → R0 (g + 1) ≠ 0) → ClR (ck_cells s) R := fun q g hg b k hk h hh eh => hcl g hg (q g hg b) k hk h hh eh
        rcases hc0 with c | c
        · exact Or.inl (same (fun g hg b => hd.2 (fun g => R0 (g + 1) ≠ 0) (fun _ _ q => q) c g hg b))
        · rcases Nat.lt_or_ge (cnt R0 24) (cnt R 24) with d | d
          · exact Or.inr (by omega)
          · exact Or.inl (same (cnt_all 24 hd.1 d))
    · obtain ⟨rfl, R, rfl, hs0, h10, hc0⟩ := hI
      rw [if_pos (ule 24 24 24)]
      have cl : ClR (ck_cells s) R := by
        rcases hc0 with c | c
        · exact c
        · have := cnt_le (f := R) 24
          omega
      exact ok_ret ⟨R, rfl, fun g hg => ⟨hs0 g hg, fun q => q (fun g => R (g + 1) ≠ 0) h10 cl⟩⟩
