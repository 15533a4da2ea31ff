/-! the fourth pass: the waiting list's chain -/
theorem upd_c {T : Nat → Int32} {i j : Nat} {a b : Int32} (h : i ≠ j) : upd (upd T i a) j b = upd (upd T j b) i a := by
  funext x
  by_cases c : x = j
  · subst c; rw [pk_us, pk_un (Ne.symm h), pk_us]
  · rw [pk_un c]
    by_cases d : x = i
    · subst d; rw [pk_us, pk_us]
    · rw [pk_un d, pk_un d, pk_un c]
def whd : List Nat → Int32
  | [] => 0
  | g :: _ => nI (g + 1)
def wch : List Nat → (Nat → Int32) → Nat → Int32
  | [], T => T
  | g :: w, T => upd (wch w T) (g * 47 + 3) (whd w)
theorem wch_at {T : Nat → Int32} {i : Nat} : ∀ (W : List Nat), (∀ g, g ∈ W → i ≠ g * 47 + 3) → wch W T i = T i := by
  intro W
  induction W with
  | nil => intro _; rfl
  | cons g w ih =>
    intro h
    show upd (wch w T) (g * 47 + 3) (whd w) i = T i
    rw [pk_un (h g List.mem_cons_self)]
    exact ih (fun x hx => h x (List.mem_cons_of_mem g hx))
theorem wch_upd {T : Nat → Int32} {i : Nat} {v : Int32} : ∀ (W : List Nat), (∀ g, g ∈ W → i ≠ g * 47 + 3) → wch W (upd T i v) = upd (wch W T) i v := by
  intro W
  induction W with
  | nil => intro _; rfl
  | cons g w ih =>
    intro h
    show upd (wch w (upd T i v)) (g * 47 + 3) (whd w) = upd (upd (wch w T) (g * 47 + 3) (whd w)) i v
    rw [ih (fun x hx => h x (List.mem_cons_of_mem g hx)), upd_c (h g List.mem_cons_self)]
theorem fileAt_w {s : ck_S} {W : List Nat} (hC : Lc s W) (hl : W.length ≤ 24) {i : Nat} (hi : i ≤ 24) : fX6_fileAt (nI i) s = some (whd (W.drop i)) := by
  unfold fX6_fileAt
  rw [if_neg (vnl i 0 0), hC.1]
  rcases Nat.lt_or_ge i W.length with c | c
  · rw [if_neg (nI_ge c (by omega)), cr_waitOn (by omega), Option.bind_some, hC.2 i _ (List.getElem?_eq_getElem c), List.drop_eq_getElem_cons c]; rfl
  · rw [if_pos (nI_le c (by omega)), List.drop_eq_nil_of_le c]; rfl
theorem cwn {s : ck_S} {X : Nat → Int32} {g w : Nat} {v : Int32} (hg : g < 24) (hw : w < 47) : fX5_putNumber (nI (g + 1)) (nI w) v (ck_set_cells s X) = some (ck_set_cells s (upd X (g * 47 + w) v)) := pm_putNumber hg hw
theorem mwn {r : mk_S} {z Y : Nat → Int32} {g w : Nat} {v : Int32} (hg : g < 24) (hw : w < 47) : mk_wr_all (mk_set_all r (mA Y z)) (47 * nI (g + 1) + nI w) v = some (mk_set_all r (mA (upd Y (g * 47 + w) v) z)) := by
  rw [pm_mc, nI_add, show g * 47 + 47 + w = io (g * 47 + w) by rw [io1 (by omega)]; omega, pm_mwr (io_lt (by omega)), mw_sa, mA_upd (by omega)]
theorem mwait_ok {s : ck_S} {Y : Nat → Int32} {W : List Nat} (hC : Lc s W) (hl : W.length ≤ 24) (hW : ∀ g, g ∈ W → g < 24) (hn : W.Nodup) : ok (fun s1 => s1 = ck_set_cells s (upd (wch W Y) 1354 (whd W))) (fX3_mendWaiting (ck_set_cells s Y)) := by
  have hC' : ∀ C, Lc (ck_set_cells s C) W := fun _ => hC
  unfold fX3_mendWaiting
  rw [show fX6_fileAt 0 (ck_set_cells s Y) = _ from fileAt_w (i := 0) (hC' Y) hl (by omega), Option.bind_some, List.drop_zero, show fX5_putTold 2 (whd W) (ck_set_cells s Y) = some (ck_set_cells s (upd Y 1354 (whd W))) from pm_putTold (w := 2) (by omega), Option.bind_some]
  refine ok2 (fun i x s1 => x = nI i ∧ ∃ C, s1 = ck_set_cells s C ∧ wch (W.drop i) C = wch W (upd Y 1354 (whd W))) (N := W.length) (by omega) ⟨rfl, upd Y 1354 (whd W), rfl, rfl⟩ (fun i hi x s1 hI rc hn2 => ?_) (fun x s1 hI rc => ?_)
  · obtain ⟨rfl, C, rfl, hc⟩ := hI
    have dr := List.drop_eq_getElem_cons hi
    have gi : W[i] < 24 := hW _ (List.getElem_mem hi)
    have nd := List.Pairwise.sublist (List.drop_sublist i W) hn
    rw [dr] at nd
    have e1 : fX6_fileAt (nI i) (ck_set_cells s C) = some (nI (W[i] + 1)) := by
      rw [fileAt_w (hC' C) hl (by omega), dr]; rfl
    rw [show fX6_size (ck_set_cells s C) = some (nI W.length) from congrArg some hC.1, Option.bind_some, if_neg (nI_ge hi (by omega)), e1, Option.bind_some, pm_s1, fileAt_w (hC' C) hl (by omega), Option.bind_some, show fX5_putNumber (nI (W[i] + 1)) 3 (whd (W.drop (i + 1))) (ck_set_cells s C) = _ from cwn (w := 3) gi (by omega), Option.bind_some]
    refine hn2 _ _ ⟨rfl, _, rfl, ?_⟩
    rw [wch_upd (i := W[i] * 47 + 3) _ (fun g hg q => (List.nodup_cons.mp nd).1 ((show g = W[i] by omega) ▸ hg)), ← hc, dr]; rfl
  · obtain ⟨rfl, C, rfl, hc⟩ := hI
    rw [show fX6_size (ck_set_cells s C) = some (nI W.length) from congrArg some hC.1, Option.bind_some, if_pos (nI_le (Nat.le_refl _) (by omega))]
    rw [List.drop_length, wch_upd W (fun g hg => by have := hW g hg; omega)] at hc
    exact ok_ret (congrArg (ck_set_cells s) hc)
theorem mchain_ok {z Y : Nat → Int32} {r : mk_S} {L : List Nat} {P : Nat → Bool} (hL : Ls r L) (hP : ∀ g, g ∈ L → (mk_goesOn r (g + 1) ≠ 0 ↔ P g = true)) : ok (fun r1 => r1 = mk_set_all r (mA (upd (wch (L.filter P) Y) 1354 (whd (L.filter P))) z)) (
      qp3 FU (fun rec82 (x4 : Int32) (x5 : Int32) (σ6 : mk_S) =>
        if x5 < 0 then (
          (mk_wr_all σ6 1428 x4).bind fun σ8 =>
          some σ8
          ) else (
          (mk_rd_list σ6 x5).bind fun v9 =>
          (mk_rd_goesOn σ6 v9).bind fun v10 =>
          if v10 = 0 then (
            rec82 x4 (x5 + (-1)) σ6
            ) else (
            (mk_rd_list σ6 x5).bind fun v12 =>
            (mk_wr_all σ6 ((47 * v12) + 3) x4).bind fun σ13 =>
            (mk_rd_list σ13 x5).bind fun v14 =>
            rec82 v14 (x5 + (-1)) σ13
            )
          )
        ) 0 ((mk_listSize (mk_set_all r (mA Y z))) - 1) (mk_set_all r (mA Y z))) := by
  obtain ⟨l1, l2, l3, l4, l5⟩ := hL
  rw [show mk_listSize (mk_set_all r (mA Y z)) = nI L.length from l4]
  refine ok3 (fun k x4 x5 r1 => x4 = whd ((L.drop (L.length - k)).filter P) ∧ x5 = nI (L.length - k) - 1 ∧ r1 = mk_set_all r (mA (wch ((L.drop (L.length - k)).filter P) Y) z)) (N := L.length) (by omega) ⟨?_, rfl, ?_⟩ (fun k hk x4 x5 r1 hI rc hn => ?_) (fun x4 x5 r1 hI rc => ?_)
  · rw [Nat.sub_zero, List.drop_length]; rfl
  · rw [Nat.sub_zero, List.drop_length]; rfl
  · obtain ⟨i, hi, e1, e2⟩ : ∃ i, i < L.length ∧ L.length - k = i + 1 ∧ L.length - (k + 1) = i := ⟨L.length - (k + 1), by omega, by omega, rfl⟩
    rw [e1] at hI
    obtain ⟨rfl, rfl, rfl⟩ := hI
    have dr := List.drop_eq_getElem_cons hi
    have gi : L[i] < 24 := l1 _ (List.getElem_mem hi)
    have li : ∀ C, mk_rd_list (mk_set_all r C) (nI i) = some (nI (L[i] + 1)) := fun C => by
      rw [mr_list (by omega)]; exact congrArg some (l5 i _ (List.getElem?_eq_getElem hi))
    have go : ∀ C, mk_rd_goesOn (mk_set_all r C) (nI (L[i] + 1)) = some (mk_goesOn r (L[i] + 1)) := fun C => mr_goesOn (by omega)
    have hp := hP _ (List.getElem_mem hi)
    rw [nI_pred, if_neg (vnl i 0 0), li, Option.bind_some, go, Option.bind_some]
    by_cases c : mk_goesOn r (L[i] + 1) = 0
    · have f : (L.drop i).filter P = (L.drop (i + 1)).filter P := by
        rw [dr, List.filter_cons_of_neg (fun q => (hp.mpr q) c)]
      rw [if_pos c]
      refine hn _ _ _ ⟨?_, ?_, ?_⟩
      · rw [e2, f]
      · rw [e2, Int32.sub_eq_add_neg]
      · rw [e2, f]
    · have f : (L.drop i).filter P = L[i] :: (L.drop (i + 1)).filter P := by
        rw [dr, List.filter_cons_of_pos (hp.mp c)]
      rw [if_neg c, Option.bind_some, show ∀ v, mk_wr_all (mk_set_all r (mA (wch ((L.drop (i + 1)).filter P) Y) z)) (47 * nI (L[i] + 1) + 3) v = _ from fun v => mwn (w := 3) gi (by omega), Option.bind_some, li, Option.bind_some]
      refine hn _ _ _ ⟨?_, ?_, ?_⟩
      · rw [e2, f]; rfl
      · rw [e2, Int32.sub_eq_add_neg]
      · rw [e2, f]; rfl
  · obtain ⟨rfl, rfl, rfl⟩ := hI
    rw [Nat.sub_self, if_pos (show nI 0 - 1 < 0 by decide), List.drop_zero, show ∀ ρ v, mk_wr_all ρ 1428 v = some (mw ρ (io 1354) v) from fun ρ v => pm_mwr (j := 1428) (by omega), Option.bind_some, mw_sa, mA_upd (by omega)]
    exact ok_ret rfl
