/-! the waiting list: both sides -/
theorem gather_rl {z M B : Nat → Int32} {σ : ck_S} {ρ : mk_S} (hR : Rz z σ ρ) (hM : ck_memory σ = M) (hB : mk_before ρ = B) (hS : Sx (ck_cells σ)) : rl (W3 z M B) (fX6_gather σ) (fX8_findWaiting ρ) := by
  unfold fX6_gather fX8_findWaiting
  rw [pm_unmark13, Option.bind_some, pm_unmark14, Option.bind_some, Option.bind_some, show fX5_toldNumber 2 _ = _ from pm_toldNumber (w := 2) (by omega), Option.bind_some]
  refine Eq.mpr (congrArg (rl _ _) (pm_mw0 (E := fun σ2 => _))) ?_
  rw [Option.bind_some]
  rw [show mk_rd_all (mk_set_listSize (mk_set_goesOn (mk_set_rightly ρ (wz (mk_rightly ρ) 0 25)) (wz (mk_goesOn ρ) 0 25)) 0) 1428 = some (ck_cells σ (1352 + 2)) from by
    rw [show (1428 : Int32) = nI 1428 from rfl, pm_mrd (by omega), ← Rz_r hR (show 1352 + 2 < 1355 by omega), show 1352 + 2 = 1328 + 26 by omega, io3 (by omega)]; rfl, Option.bind_some]
  refine rl32 (fun k x5 x6 s y r => x5 = y ∧ x6 = nI k ∧ G3 z M B (ck_cells σ) (ck_held σ) k s r) (N := 24) (by omega) ⟨rfl, rfl, ?_⟩ (fun k hk x5 x6 s y r hI rc rm hn => ?_) (fun x5 x6 s y r hI rc rm => ?_)
  · refine ⟨[], hR, hM, hB, rfl, rfl, rfl, ⟨fun g hg => absurd hg (by simp), by simp, by simp, rfl, fun i g e => absurd e (by simp)⟩, ⟨rfl, fun i g e => absurd e (by simp)⟩, fun f hf => ?_, ?_, fun g hg => ?_, ?_, ?_, fun g hg => ⟨fun q => absurd q.1 (by simp), fun _ => ?_⟩, fun f hf => ?_⟩
    · show wz (ck_came σ) 0 25 f = wz (mk_goesOn ρ) 0 25 f
      rw [wz_in (by omega) hf, wz_in (by omega) hf]
    · show wz (mk_goesOn ρ) 0 25 0 = 0
      rw [wz_in (by omega) (by omega)]
    · show wz (ck_came σ) 0 25 (g + 1) ≠ 0 ↔ _
      rw [wz_in (by omega) (by omega)]
      exact ⟨fun q => absurd rfl q, fun q => absurd q (by simp)⟩
    · show cnt (wz (ck_came σ) 0 25) 24 = 0
      have e : cnt (wz (ck_came σ) 0 25) 24 = cnt (fun _ => 0) 24 := cnt_eq 24 (fun x hx => by rw [wz_in (by omega) (by omega)])
      rw [e]; rfl
    · show wz (ck_rightly σ) 0 25 0 = 0
      rw [wz_in (by omega) (by omega)]
    · show wz (ck_rightly σ) 0 25 (g + 1) = 0
      rw [wz_in (by omega) (by omega)]
    · show wz (mk_rightly ρ) 0 25 f = 0
      rw [wz_in (by omega) hf]
  · obtain ⟨rfl, rfl, hI⟩ := hI
    rw [if_neg (uge 24 24 k)]
    rcases ix_file x5 with c | ⟨g, hg, rfl⟩
    · rw [pm_isFile0 c, Option.bind_some, if_pos rfl, pm_isIn0 c, Option.bind_some, if_pos rfl]
      exact G3_exit hS hI
    · have h10 : ¬ (1 : Int32) = 0 := by decide
      obtain ⟨L, hR, hM, hB, hT, hH, hkL, hL, hC, hca, hg0, hcL, hcn, hr0, hri, hmr⟩ := hI
      rw [pm_isFile1 hg, Option.bind_some, if_neg h10, pm_isIn1 (pm_f1 hg) (pm_f2 hg), Option.bind_some, if_neg h10, cr_came (by omega), Option.bind_some, mr_goesOn (by omega), Option.bind_some, ← hca _ (by omega)]
      by_cases cc : ck_came s (g + 1) = 0
      · rw [if_pos cc, if_pos cc, cr_w_came (by omega) (Or.inr rfl), Option.bind_some, mr_w_goesOn (by omega) (Or.inr rfl), Option.bind_some]
        have gL : g ∉ L := fun q => (hcL g hg).mpr q cc
        have e4 : ∀ G, mk_listSize (mk_set_goesOn r G) = nI k := fun G => (show mk_listSize r = nI k by rw [hL.2.2.2.1, hkL])
        rw [e4, mr_w_list (by omega), Option.bind_some]
        rw [show mk_listSize (mk_set_list (mk_set_goesOn r (upd (mk_goesOn r) (g + 1) 1)) (upd (mk_list (mk_set_goesOn r (upd (mk_goesOn r) (g + 1) 1))) k (nI (g + 1)))) = nI k from e4 (mk_goesOn r), Option.bind_some, pm_s1]
        have hL2 := Ls_app (G := upd (mk_goesOn r) (g + 1) 1) hL hg gL (by omega)
        rw [hkL] at hL2
        have hR2 : Rz z s (mk_set_listSize (mk_set_list (mk_set_goesOn r (upd (mk_goesOn r) (g + 1) 1)) (upd (mk_list r) k (nI (g + 1)))) (nI (k + 1))) := hR
        rw [pm_mc, show (3 : Int32) = nI 3 from rfl, nI_add, show mk_rd_all (mk_set_listSize (mk_set_list (mk_set_goesOn r (upd (mk_goesOn r) (g + 1) 1)) (upd (mk_list (mk_set_goesOn r (upd (mk_goesOn r) (g + 1) 1))) k (nI (g + 1)))) (nI (k + 1))) (nI (g * 47 + 47 + 3)) = _ from rz_rdE hR2 (j := g * 47 + 3) (by omega) (by omega), Option.bind_some]
        have key : ∀ s2 : ck_S, ck_cells s2 = ck_cells σ → ck_memory s2 = M → ck_held s2 = ck_held σ → ck_came s2 = upd (ck_came s) (g + 1) 1 → Lc s2 ((L ++ [g]).filter (wpb (ck_cells σ) (ck_held σ))) → ((mwt (ck_cells σ) g ∧ ck_rightly s2 = upd (ck_rightly s) (g + 1) 1) ∨ (¬ mwt (ck_cells σ) g ∧ ck_rightly s2 = ck_rightly s)) → rl (W3 z M B) ((fX5_number (nI (g + 1)) (nI 3) s2).bind fun v16 => rc v16 (nI (k + 1)) s2) (rm (ck_cells s (g * 47 + 3)) (mk_set_listSize (mk_set_list (mk_set_goesOn r (upd (mk_goesOn r) (g + 1) 1)) (upd (mk_list r) k (nI (g + 1)))) (nI (k + 1)))) := by
          intro s2 t1 t2 t3 t4 t5 t6
          rw [pm_number hg (by omega), Option.bind_some, t1, ← hT]
          refine hn _ _ _ _ _ ⟨rfl, rfl, L ++ [g], ?_, t2, hB, t1, t3, ?_, hL2, t5, fun f hf => ?_, ?_, fun x hx => ?_, ?_, ?_, fun x hx => ?_, hmr⟩
          · obtain ⟨b1, b2, b3, b4⟩ := hR
            refine ⟨?_, ?_, ?_, ?_⟩
            · rw [t1, ← hT]; exact b1
            · rw [t3, ← hH]; exact b2
            · rw [t3, ← hH]; exact b3
            · rw [t1, ← hT]; exact b4
          · rw [List.length_append, hkL]; rfl
          · rw [t4]
            show upd (ck_came s) (g + 1) 1 f = upd (mk_goesOn r) (g + 1) 1 f
            by_cases q : f = g + 1
            · subst q; rw [pk_us, pk_us]
            · rw [pk_un q, pk_un q]; exact hca f hf
          · show upd (mk_goesOn r) (g + 1) 1 0 = 0
            rw [pk_un (by omega)]; exact hg0
          · rw [t4, List.mem_append, List.mem_singleton]
            by_cases q : x = g
            · subst q; rw [pk_us]; exact ⟨fun _ => Or.inr rfl, fun _ => h10⟩
            · rw [pk_un (by omega), hcL x hx]
              exact ⟨Or.inl, fun a => a.resolve_right q⟩
          · rw [t4, cnt_up cc 24 hg, hcn]
          · rcases t6 with ⟨-, t6⟩ | ⟨-, t6⟩
            · rw [t6, pk_un (by omega)]; exact hr0
            · rw [t6]; exact hr0
          · rw [List.mem_append, List.mem_singleton]
            by_cases q : x = g
            · subst q
              rcases t6 with ⟨t7, t6⟩ | ⟨t7, t6⟩
              · rw [t6, pk_us]
                exact ⟨fun _ => rfl, fun a => absurd ⟨Or.inr rfl, t7⟩ a⟩
              · rw [t6]
                exact ⟨fun a => absurd a.2 t7, fun _ => (hri x hx).2 (fun a => gL a.1)⟩
            · have e : ck_rightly s2 (x + 1) = ck_rightly s (x + 1) := by
                rcases t6 with ⟨-, t6⟩ | ⟨-, t6⟩
                · rw [t6, pk_un (by omega)]
                · rw [t6]
              rw [e]
              exact ⟨fun a => (hri x hx).1 ⟨a.1.resolve_right q, a.2⟩, fun a => (hri x hx).2 (fun b => a ⟨Or.inl b.1, b.2⟩)⟩
        rcases mw_c hg (σ := ck_set_came s (upd (ck_came s) (g + 1) 1)) with ⟨m1, m2⟩ | ⟨m1, m2⟩
        · have m3 : mwt (ck_cells σ) g := by rw [← hT]; exact m1
          rw [m2, Option.bind_some, jn_app, if_neg h10, cr_w_rightly (by omega) (Or.inr rfl), Option.bind_some, cr_held (by omega), Option.bind_some]
          unfold fX6_addIfHeld
          by_cases ch : ck_held s (g + 1) = 0
          · rw [if_pos (show ck_held (ck_set_rightly (ck_set_came s (upd (ck_came s) (g + 1) 1)) (upd (ck_rightly (ck_set_came s (upd (ck_came s) (g + 1) 1))) (g + 1) 1)) (g + 1) = 0 from ch), Option.bind_some]
            refine key _ hT hM hH rfl (Lc_same hC ?_) (Or.inl ⟨m3, rfl⟩)
            rw [← hH]
            exact Bool.eq_false_iff.mpr (fun q => (wpb_iff.mp q).2 ch)
          · have lf : (L.filter (wpb (ck_cells σ) (ck_held σ))).length ≤ k := by
              have := List.length_filter_le (wpb (ck_cells σ) (ck_held σ)) L
              omega
            rw [if_neg (show ¬ ck_held (ck_set_rightly (ck_set_came s (upd (ck_came s) (g + 1) 1)) (upd (ck_rightly (ck_set_came s (upd (ck_came s) (g + 1) 1))) (g + 1) 1)) (g + 1) = 0 from ch)]
            have ec : ck_count (ck_set_rightly (ck_set_came s (upd (ck_came s) (g + 1) 1)) (upd (ck_rightly (ck_set_came s (upd (ck_came s) (g + 1) 1))) (g + 1) 1)) = nI (L.filter (wpb (ck_cells σ) (ck_held σ))).length := hC.1
            rw [ec, if_neg (uge 24 24 (L.filter (wpb (ck_cells σ) (ck_held σ))).length), cr_w_waitOn (by omega), Option.bind_some, Option.bind_some, Option.bind_some]
            have pt : wpb (ck_cells σ) (ck_held σ) g = true := wpb_iff.mpr ⟨m3, by rw [← hH]; exact ch⟩
            refine key _ hT hM hH rfl ?_ (Or.inl ⟨m3, rfl⟩)
            have := Lc_app hC pt
            refine ⟨Eq.trans ?_ this.1, this.2⟩
            show ck_count s + 1 = nI ((L.filter (wpb (ck_cells σ) (ck_held σ))).length + 1)
            rw [hC.1, pm_s1]
        · have m3 : ¬ mwt (ck_cells σ) g := by rw [← hT]; exact m1
          rw [m2, Option.bind_some, jn_app, if_pos rfl]
          exact key _ hT hM hH rfl (Lc_same hC (Bool.eq_false_iff.mpr (fun q => m3 (wpb_iff.mp q).1))) (Or.inr ⟨m3, rfl⟩)
      · rw [if_neg cc, if_neg cc]
        exact G3_exit hS ⟨L, hR, hM, hB, hT, hH, hkL, hL, hC, hca, hg0, hcL, hcn, hr0, hri, hmr⟩
  · obtain ⟨rfl, rfl, hI⟩ := hI
    rw [if_pos (ule 24 24 24)]
    have h10 : ¬ (1 : Int32) = 0 := by decide
    rcases ix_file x5 with c | ⟨g, hg, rfl⟩
    · rw [pm_isIn0 c, Option.bind_some, if_pos rfl]
      exact G3_exit hS hI
    · have hI2 := hI
      obtain ⟨L, hR, hM, hB, hT, hH, hkL, hL, hC, hca, hg0, hcL, hcn, hr0, hri, hmr⟩ := hI2
      rw [pm_isIn1 (pm_f1 hg) (pm_f2 hg), Option.bind_some, if_neg h10, mr_goesOn (by omega), Option.bind_some, ← hca _ (by omega), if_neg (fun q => by have := cnt_lt q 24 hg; omega)]
      exact G3_exit hS hI
