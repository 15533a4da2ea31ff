set_option maxHeartbeats 4000000 in
set_option maxRecDepth 100000 in
theorem law_loop {p : Program} {l : Launch} {e : Env} {s : State} {m : MethodId} {below : List Frame} {meth : Method} {c : Code} {D : va_G} {cI cZ cJ : ClassId} {a g : Nat → Nat} {o bs L : Nat} {xs : Nat → Int32} {Rl : ck_S → mk_S → Prop} (MM : lm_all Rl) (hL : L ≤ 3072) (CX : lk_Cx p l s m meth c D cI cZ cJ bs L xs) :
    ∀ (n k : Nat) (x4 : Int32), 6 * k ≤ L → L < 6 * k + 6 * n → x4 = nI (6 * k) → ∀ (σ : ck_S) (ρ : mk_S) (f : Nat → Int64), Rl σ ρ → ∀ (H : Heap) (locs : List Loc) (ls : Array Slot), va_P D vwCl ((lk_W cI cZ cJ a g o) (σ, ρ, f)) H → va_D (fun q : Nat => s.heap.size ≤ q) ((lk_W cI cZ cJ a g o) (σ, ρ, f)) → va_S (fun q : Nat => s.heap.size ≤ q) s.heap H locs → lv_has ls 7 [(0, .ref bs), (1, .ref (a 0)), (2, .ref (g 0)), (3, .ref o), (4, .int x4)] → W p l e room_1 s m #[Value.ref bs] below meth c H locs (26 + k) (6295 + 6 * k) (lw_Z below #[Value.ref bs] s) (F0 m 23 ls []) := by
  obtain ⟨hx, hb, hr, hml, hown, hts, hSc, hbl, hlocks, hl0, hK, hN, hXk⟩ := id CX
  have hbA : ¬ (fun q : Nat => s.heap.size ≤ q) bs := Nat.not_le.mpr hbl
  obtain ⟨m_init, m_clear, m_set, m_run, m_entry, m_hold, m_bit, m_tell, m_check, m_about, m_runOf, m_entryOf, m_isTaken, m_told, m_find⟩ := MM
  intro n
  induction n with
  | zero =>
    intro k x4 h1 h2
    exact absurd h2 (by omega)
  | succ n ih =>
    intro k x4 hk hn e4 σ ρ f hR H locs ls hP hD hS hl
    refine lv_iload hx hb dL_law_23 (lv_at hl 4 rfl) ?_
    refine lv_aload_n hx hb dL_law_25 rfl (lv_at hl 0 rfl) ?_
    refine va_slen hx hb hSc hbl hbA hS dL_law_26 ?_
    refine lv_bipush (v := 6) hx hb dL_law_27 (by decide) ?_
    refine lv_isub hx hb dL_law_29 ?_
    refine lv_icmp_gt (tgt := 974) hx hb dL_law_30 (by decide) (fun c0 => ?_) (fun c0 => ?_)
    · refine lv_iconst (v := 1) hx hb dL_law_974 (by decide) ?_
      refine va_forget (fun q hq => hS.2.2 q hq) ?_
      refine W.widen (k := 1053) (n := 14505) (by omega) (by omega) ?_
      exact lw_ret hx hb hr hlocks dL_law_975
    · have hm : 6 * k + 6 ≤ L := lk_more hL hk (by rw [← e4]; exact c0)
      have hin : ∀ j : Int32, j = 0 ∨ j = 1 ∨ j = 2 ∨ j = 3 ∨ j = 4 ∨ j = 5 → vp_in (x4 + j) L := by rw [e4]; exact lk_in hL hm
      have hi0 : vp_in x4 L := by rw [e4]; exact vp_in_nI (by omega) (by omega)
      have KK : ∀ (σ : ck_S) (ρ : mk_S), Rl σ ρ → ∀ (f : Nat → Int64) (H : Heap) (locs : List Loc) (ls : Array Slot), va_P D vwCl ((lk_W cI cZ cJ a g o) (σ, ρ, f)) H → va_D (fun q : Nat => s.heap.size ≤ q) ((lk_W cI cZ cJ a g o) (σ, ρ, f)) → va_S (fun q : Nat => s.heap.size ≤ q) s.heap H locs → lv_has ls 7 [(0, .ref bs), (1, .ref (a 0)), (2, .ref (g 0)), (3, .ref o), (4, .int x4)] → W p l e room_1 s m #[Value.ref bs] below meth c H locs (26 + k + 1) (6295 + 6 * k + 6) (lw_Z below #[Value.ref bs] s) (F0 m 968 ls []) := by
        intro σ ρ hR f H locs ls hP hD hS hl
        refine lv_iinc (v := x4 + 6) (lv' := [(4, .int (x4 + 6)), (0, .ref bs), (1, .ref (a 0)), (2, .ref (g 0)), (3, .ref o)]) hx hb dL_law_968 hl (k := 4) rfl rfl (by decide) rfl (fun ls hl => ?_)
        refine lv_goto (tgt := 23) hx hb dL_law_971 (by decide) ?_
        refine W.widen (k := 26 + (k + 1)) (n := 6295 + 6 * (k + 1)) (by omega) (by omega) ?_
        exact ih (k + 1) (x4 + 6) (by omega) (by omega) (by rw [e4, show (6 : Int32) = nI 6 from rfl, nI_add]; congr 1) σ ρ f hR H locs ls hP hD hS (lv_sub hl [1, 2, 3, 4, 0] rfl)
      have hc1 : 26 + k + 1 ≤ 1053 := by omega
      have hc2 : 6295 + 6 * k + 6 ≤ 14505 := by omega
      refine lv_aload_n hx hb dL_law_33 rfl (lv_at hl 0 rfl) ?_
      refine lv_iload hx hb dL_law_34 (lv_at hl 4 rfl) ?_
      refine va_sld hx hb hSc hbl hbA hS hi0 dL_law_36 ?_
      refine lv_bipush (v := 15) hx hb dL_law_37 (by decide) ?_
      refine lv_iand hx hb dL_law_39 ?_
      refine lv_topi (fun w ew => ?_)
      clear ew
      by_cases w0 : w = 0
      · refine ik_tin (k := 0) (tgt := 112) (off := 72) hx hb dL_law_40 w0 (by decide) (by decide) rfl (by decide) ?_
        obtain ⟨σ1, ρ1, g1, g2, g3⟩ := m_clear σ ρ hR
        exact lc_clear CX x4 hin (26 + k) (6295 + 6 * k) hc1 hc2 σ ρ f σ1 ρ1 g1 g2 H locs ls hP hD hS hl (KK σ1 ρ1 g3)
      by_cases w1 : w = 1
      · refine ik_tin (k := 1) (tgt := 123) (off := 83) hx hb dL_law_40 w1 (by decide) (by decide) rfl (by decide) ?_
        rcases m_set σ ρ hR (lk_v xs x4 1) (lk_v xs x4 2) (lk_v xs x4 3) with ⟨σ1, ρ1, g1, g2, g3, g4⟩ | ⟨ρ1, g1, g2, g3, g4⟩
        · exact lc_set CX x4 hin (26 + k) (6295 + 6 * k) hc1 hc2 σ ρ f σ1 ρ1 g1 g2 g3 H locs ls hP hD hS hl (KK σ1 ρ1 g4)
        · exact lc_set_t CX x4 hin (26 + k) (6295 + 6 * k) hc1 hc2 σ ρ f ρ1 g1 g2 g3 H locs ls hP hD hS hl (KK σ ρ1 g4)
      by_cases w2 : w = 2
      · refine ik_tin (k := 2) (tgt := 183) (off := 143) hx hb dL_law_40 w2 (by decide) (by decide) rfl (by decide) ?_
        rcases m_run σ ρ hR (lk_v xs x4 1) (lk_v xs x4 2) (lk_v xs x4 3) (lk_v xs x4 4) (lk_v xs x4 5) with ⟨σ1, ρ1, g1, g2, g3, g4⟩ | ⟨ρ1, g1, g2, g3, g4⟩
        · exact lc_run CX x4 hin (26 + k) (6295 + 6 * k) hc1 hc2 σ ρ f σ1 ρ1 g1 g2 g3 H locs ls hP hD hS hl (KK σ1 ρ1 g4)
        · exact lc_run_t CX x4 hin (26 + k) (6295 + 6 * k) hc1 hc2 σ ρ f ρ1 g1 g2 g3 H locs ls hP hD hS hl (KK σ ρ1 g4)
      by_cases w3 : w = 3
      · refine ik_tin (k := 3) (tgt := 267) (off := 227) hx hb dL_law_40 w3 (by decide) (by decide) rfl (by decide) ?_
        rcases m_entry σ ρ hR (lk_v xs x4 1) (lk_v xs x4 2) (lk_v xs x4 3) (lk_v xs x4 4) (lk_v xs x4 5) with ⟨σ1, ρ1, g1, g2, g3, g4⟩ | ⟨ρ1, g1, g2, g3, g4⟩
        · exact lc_entry CX x4 hin (26 + k) (6295 + 6 * k) hc1 hc2 σ ρ f σ1 ρ1 g1 g2 g3 H locs ls hP hD hS hl (KK σ1 ρ1 g4)
        · exact lc_entry_t CX x4 hin (26 + k) (6295 + 6 * k) hc1 hc2 σ ρ f ρ1 g1 g2 g3 H locs ls hP hD hS hl (KK σ ρ1 g4)
      by_cases w4 : w = 4
      · refine ik_tin (k := 4) (tgt := 351) (off := 311) hx hb dL_law_40 w4 (by decide) (by decide) rfl (by decide) ?_
        rcases m_hold σ ρ hR (lk_v xs x4 1) (lk_b (lk_v xs x4 2)) (lk_b01 _) with ⟨σ1, ρ1, g1, g2, g3, g4⟩ | ⟨ρ1, g1, g2, g3, g4⟩
        · exact lc_hold CX x4 hin (26 + k) (6295 + 6 * k) hc1 hc2 σ ρ f σ1 ρ1 g1 g2 g3 H locs ls hP hD hS hl (KK σ1 ρ1 g4)
        · exact lc_hold_t CX x4 hin (26 + k) (6295 + 6 * k) hc1 hc2 σ ρ f ρ1 g1 g2 g3 H locs ls hP hD hS hl (KK σ ρ1 g4)
      by_cases w5 : w = 5
      · refine ik_tin (k := 5) (tgt := 415) (off := 375) hx hb dL_law_40 w5 (by decide) (by decide) rfl (by decide) ?_
        rcases m_bit σ ρ hR (lk_v xs x4 1) (lk_v xs x4 2) (lk_b (lk_v xs x4 3)) (lk_b01 _) with ⟨σ1, ρ1, g1, g2, g3, g4⟩ | ⟨ρ1, g1, g2, g3, g4⟩
        · exact lc_bit CX x4 hin (26 + k) (6295 + 6 * k) hc1 hc2 σ ρ f σ1 ρ1 g1 g2 g3 H locs ls hP hD hS hl (KK σ1 ρ1 g4)
        · exact lc_bit_t CX x4 hin (26 + k) (6295 + 6 * k) hc1 hc2 σ ρ f ρ1 g1 g2 g3 H locs ls hP hD hS hl (KK σ ρ1 g4)
      by_cases w6 : w = 6
      · refine ik_tin (k := 6) (tgt := 491) (off := 451) hx hb dL_law_40 w6 (by decide) (by decide) rfl (by decide) ?_
        rcases m_tell σ ρ hR (lk_v xs x4 1) (lk_v xs x4 2) with ⟨σ1, ρ1, g1, g2, g3, g4⟩ | ⟨ρ1, g1, g2, g3, g4⟩
        · exact lc_tell CX x4 hin (26 + k) (6295 + 6 * k) hc1 hc2 σ ρ f σ1 ρ1 g1 g2 g3 H locs ls hP hD hS hl (KK σ1 ρ1 g4)
        · exact lc_tell_t CX x4 hin (26 + k) (6295 + 6 * k) hc1 hc2 σ ρ f ρ1 g1 g2 g3 H locs ls hP hD hS hl (KK σ ρ1 g4)
      by_cases w7 : w = 7
      · refine ik_tin (k := 7) (tgt := 539) (off := 499) hx hb dL_law_40 w7 (by decide) (by decide) rfl (by decide) ?_
        obtain ⟨r, σ1, ρ1, g1, g2, g3⟩ := m_check σ ρ hR
        exact lc_check CX x4 hin (26 + k) (6295 + 6 * k) hc1 hc2 σ ρ f r σ1 ρ1 g1 g2 H locs ls hP hD hS hl (KK σ1 ρ1 g3)
      by_cases w8 : w = 8
      · refine ik_tin (k := 8) (tgt := 552) (off := 512) hx hb dL_law_40 w8 (by decide) (by decide) rfl (by decide) ?_
        rcases m_about σ ρ hR (lk_v xs x4 1) (lk_v xs x4 2) with ⟨r, ρ1, g1, g2, g3, g4⟩ | ⟨r, ρ1, g1, g2, g3, g4⟩
        · exact lc_about CX x4 hin (26 + k) (6295 + 6 * k) hc1 hc2 σ ρ f r ρ1 g1 g2 g3 H locs ls hP hD hS hl (KK σ ρ1 g4)
        · exact lc_about_t CX x4 hin (26 + k) (6295 + 6 * k) hc1 hc2 σ ρ f r ρ1 g1 g2 g3 H locs ls hP hD hS hl (KK σ ρ1 g4)
      by_cases w9 : w = 9
      · refine ik_tin (k := 9) (tgt := 620) (off := 580) hx hb dL_law_40 w9 (by decide) (by decide) rfl (by decide) ?_
        rcases m_runOf σ ρ hR (lk_v xs x4 1) (lk_v xs x4 2) (lk_v xs x4 3) with ⟨r, ρ1, g1, g2, g3, g4⟩ | ⟨r, ρ1, g1, g2, g3, g4⟩
        · exact lc_runOf CX x4 hin (26 + k) (6295 + 6 * k) hc1 hc2 σ ρ f r ρ1 g1 g2 g3 H locs ls hP hD hS hl (KK σ ρ1 g4)
        · exact lc_runOf_t CX x4 hin (26 + k) (6295 + 6 * k) hc1 hc2 σ ρ f r ρ1 g1 g2 g3 H locs ls hP hD hS hl (KK σ ρ1 g4)
      by_cases w10 : w = 10
      · refine ik_tin (k := 10) (tgt := 700) (off := 660) hx hb dL_law_40 w10 (by decide) (by decide) rfl (by decide) ?_
        rcases m_entryOf σ ρ hR (lk_v xs x4 1) (lk_v xs x4 2) (lk_v xs x4 3) with ⟨r, ρ1, g1, g2, g3, g4⟩ | ⟨r, ρ1, g1, g2, g3, g4⟩
        · exact lc_entryOf CX x4 hin (26 + k) (6295 + 6 * k) hc1 hc2 σ ρ f r ρ1 g1 g2 g3 H locs ls hP hD hS hl (KK σ ρ1 g4)
        · exact lc_entryOf_t CX x4 hin (26 + k) (6295 + 6 * k) hc1 hc2 σ ρ f r ρ1 g1 g2 g3 H locs ls hP hD hS hl (KK σ ρ1 g4)
      by_cases w11 : w = 11
      · refine ik_tin (k := 11) (tgt := 780) (off := 740) hx hb dL_law_40 w11 (by decide) (by decide) rfl (by decide) ?_
        rcases m_isTaken σ ρ hR (lk_v xs x4 1) (lk_v xs x4 2) with ⟨r, r8, ρ1, g1, g2, g3, g5, g4⟩ | ⟨r8, ρ1, g1, g2, g3, g4⟩
        · exact lc_isTaken CX x4 hin (26 + k) (6295 + 6 * k) hc1 hc2 σ ρ f r r8 ρ1 g1 g2 g3 g5 H locs ls hP hD hS hl (KK σ ρ1 g4)
        · exact lc_isTaken_t CX x4 hin (26 + k) (6295 + 6 * k) hc1 hc2 σ ρ f r8 ρ1 g1 g2 g3 H locs ls hP hD hS hl (KK σ ρ1 g4)
      by_cases w12 : w = 12
      · refine ik_tin (k := 12) (tgt := 855) (off := 815) hx hb dL_law_40 w12 (by decide) (by decide) rfl (by decide) ?_
        rcases m_told σ ρ hR (lk_v xs x4 1) with ⟨r, ρ1, g1, g2, g3, g4⟩ | ⟨r, ρ1, g1, g2, g3, g4⟩
        · exact lc_told CX x4 hin (26 + k) (6295 + 6 * k) hc1 hc2 σ ρ f r ρ1 g1 g2 g3 H locs ls hP hD hS hl (KK σ ρ1 g4)
        · exact lc_told_t CX x4 hin (26 + k) (6295 + 6 * k) hc1 hc2 σ ρ f r ρ1 g1 g2 g3 H locs ls hP hD hS hl (KK σ ρ1 g4)
      by_cases w13 : w = 13
      · refine ik_tin (k := 13) (tgt := 911) (off := 871) hx hb dL_law_40 w13 (by decide) (by decide) rfl (by decide) ?_
        obtain ⟨r, ρ1, g1, g2, g3⟩ := m_find σ ρ hR (((lk_v xs x4 1).toInt64 <<< ((32 : Int32).toInt64 &&& 63)) ||| ((lk_v xs x4 2).toInt64 &&& (4294967295 : Int64)))
        exact lc_find CX x4 hin (26 + k) (6295 + 6 * k) hc1 hc2 σ ρ f r ρ1 g1 g2 H locs ls hP hD hS hl (KK σ ρ1 g3)
      refine lv_tableOut (tgt := 968) hx hb dL_law_40 (lk_tout w0 w1 w2 w3 w4 w5 w6 w7 w8 w9 w10 w11 w12 w13) (by decide) ?_
      refine W.widen (k := 26 + k + 1) (n := 6295 + 6 * k + 6) (by omega) (by omega) ?_
      exact KK σ ρ hR f H locs ls hP hD hS hl
