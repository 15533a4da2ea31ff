set_option maxHeartbeats 4000000 in
set_option maxRecDepth 100000 in
theorem lc_entryOf {p : Program} {l : Launch} {e : Env} {s : State} {m : MethodId} {below : List Frame} {meth : Method} {c : Code} {D : va_G} {cI cZ cJ : ClassId} {a g : Nat → Nat} {o bs L : Nat} {xs : Nat → Int32} (CX : lk_Cx p l s m meth c D cI cZ cJ bs L xs) (x4 : Int32) (hin : ∀ j : Int32, j = 0 ∨ j = 1 ∨ j = 2 ∨ j = 3 ∨ j = 4 ∨ j = 5 → vp_in (x4 + j) L) (cells slots : Nat) (hc1 : cells + 1 ≤ 1053) (hc2 : slots + 6 ≤ 14505) (σ : ck_S) (ρ : mk_S) (f : Nat → Int64) (r : Int32) (ρ1 : mk_S) (hA : fX7_entryOf (lk_v xs x4 1) (lk_v xs x4 2) (lk_v xs x4 3) σ = some r) (hB : fX8_entryOf (lk_v xs x4 1) (lk_v xs x4 2) (lk_v xs x4 3) ρ = some (r, ρ1)) (hC : mk_code ρ1 = 0) (H : Heap) (locs : List Loc) (ls : Array Slot) (hP : va_P D vwCl ((lk_W cI cZ cJ a g o) (σ, ρ, f)) H) (hD : va_D (fun q : Nat => s.heap.size ≤ q) ((lk_W cI cZ cJ a g o) (σ, ρ, f))) (hS : va_S (fun q : Nat => s.heap.size ≤ q) s.heap H locs) (hl : lv_has ls 7 [(0, .ref bs), (1, .ref (a 0)), (2, .ref (g 0)), (3, .ref o), (4, .int x4)])
    (KK : ∀ (f : Nat → Int64) (H : Heap) (locs : List Loc) (ls : Array Slot), va_P D vwCl ((lk_W cI cZ cJ a g o) (σ, ρ1, f)) H → va_D (fun q : Nat => s.heap.size ≤ q) ((lk_W cI cZ cJ a g o) (σ, ρ1, f)) → va_S (fun q : Nat => s.heap.size ≤ q) s.heap H locs → lv_has ls 7 [(0, .ref bs), (1, .ref (a 0)), (2, .ref (g 0)), (3, .ref o), (4, .int x4)] → W p l e room_1 s m #[Value.ref bs] below meth c H locs (cells + 1) (slots + 6) (lw_Z below #[Value.ref bs] s) (F0 m 968 ls [])) :
    W p l e room_1 s m #[Value.ref bs] below meth c H locs cells slots (lw_Z below #[Value.ref bs] s) (F0 m 700 ls []) := by
  obtain ⟨hx, hb, hr, hml, hown, hts, hSc, hbl, hlocks, hl0, hK, hN, hXk⟩ := CX
  have hbA : ¬ (fun q : Nat => s.heap.size ≤ q) bs := Nat.not_le.mpr hbl
  refine lv_aload_n hx hb dL_law_700 rfl (lv_at hl 1 rfl) ?_
  refine lv_aload_n hx hb dL_law_701 rfl (lv_at hl 0 rfl) ?_
  refine lv_iload hx hb dL_law_702 (lv_at hl 4 rfl) ?_
  refine lv_iconst (v := 1) hx hb dL_law_704 (by decide) ?_
  refine lv_iadd hx hb dL_law_705 ?_
  refine va_sld hx hb hSc hbl hbA hS (hin 1 (by decide)) dL_law_706 ?_
  refine lv_aload_n hx hb dL_law_707 rfl (lv_at hl 0 rfl) ?_
  refine lv_iload hx hb dL_law_708 (lv_at hl 4 rfl) ?_
  refine lv_iconst (v := 2) hx hb dL_law_710 (by decide) ?_
  refine lv_iadd hx hb dL_law_711 ?_
  refine va_sld hx hb hSc hbl hbA hS (hin 2 (by decide)) dL_law_712 ?_
  refine lv_aload_n hx hb dL_law_713 rfl (lv_at hl 0 rfl) ?_
  refine lv_iload hx hb dL_law_714 (lv_at hl 4 rfl) ?_
  refine lv_iconst (v := 3) hx hb dL_law_716 (by decide) ?_
  refine lv_iadd hx hb dL_law_717 ?_
  refine va_sld hx hb hSc hbl hbA hS (hin 3 (by decide)) dL_law_718 ?_
  refine lv_aload_n hx hb dL_law_719 rfl (lv_at hl 3 rfl) ?_
  refine ig_Wi (As := [.ref (a 0), .int (lk_v xs x4 1), .int (lk_v xs x4 2), .int (lk_v xs x4 3), .ref o]) (rest := []) (hh := [(0, 12, 15, 13)]) ⟨hx, hb, hml, hown, hts⟩ (c_L_entryOf l D cI cZ cJ a g o (fun q : Nat => s.heap.size ≤ q) (lk_v xs x4 1) (lk_v xs x4 2) (lk_v xs x4 3) σ r ρ f hA) (vx_cwSW 5 hts gL_law_L_entryOf rfl rfl rfl (by decide +kernel) ⟨Nat.le_of_ble_eq_true rfl, Nat.le_of_ble_eq_true rfl⟩) ik_blind (ik_pre hP hK hD hN) hS rfl hl.1 rfl (Nat.le_of_ble_eq_true rfl) dL_law_720 ⟨by show cells + 0 ≤ 1053; omega, by show slots + 0 ≤ 14505; omega⟩ (fun H locs hP hD hS => ?_)
  refine lv_istore (lv' := [(5, .int 0), (0, .ref bs), (1, .ref (a 0)), (2, .ref (g 0)), (3, .ref o), (4, .int x4)]) hx hb dL_law_723 hl (by decide) rfl (fun ls hl => ?_)
  refine lv_aload_n hx hb dL_law_725 rfl (lv_at hl 3 rfl) ?_
  refine lv_aload_n hx hb dL_law_726 rfl (lv_at hl 1 rfl) ?_
  refine lv_iload hx hb dL_law_727 (lv_at hl 5 rfl) ?_
  refine lv_iconst (v := 1) hx hb dL_law_729 (by decide) ?_
  refine lv_iadd hx hb dL_law_730 ?_
  refine va_sld hx hb hSc hbl hbA hS (hin 1 (by decide)) dL_law_731 ?_
  refine lv_aload_n hx hb dL_law_732 rfl (lv_at hl 1 rfl) ?_
  refine lv_iload hx hb dL_law_733 (lv_at hl 5 rfl) ?_
  refine lv_iconst (v := 2) hx hb dL_law_735 (by decide) ?_
  refine lv_iadd hx hb dL_law_736 ?_
  refine va_sld hx hb hSc hbl hbA hS (hin 2 (by decide)) dL_law_737 ?_
  refine lv_aload_n hx hb dL_law_738 rfl (lv_at hl 1 rfl) ?_
  refine lv_iload hx hb dL_law_739 (lv_at hl 5 rfl) ?_
  refine lv_iconst (v := 3) hx hb dL_law_741 (by decide) ?_
  refine lv_iadd hx hb dL_law_742 ?_
  refine va_sld hx hb hSc hbl hbA hS (hin 3 (by decide)) dL_law_743 ?_
  refine ig_Vi (As := [.int (lk_v xs x4 1), .int (lk_v xs x4 2), .int (lk_v xs x4 3)]) (rest := []) ⟨hx, hb, hml, hown, hts⟩ (fr_i (isT := [0, 1]) (fun A => c_X8_entryOf l D cI cZ g A (lk_v xs x4 1) (lk_v xs x4 2) (lk_v xs x4 3) ρ r ρ1 hB) (lk_emM cI cZ cJ a g o σ ρ ρ1 (lk_out f r.toInt64)) rfl (fun _ h => absurd h List.not_mem_nil) (fun q : Nat => s.heap.size ≤ q)) (cwV 3 hts gL_law_X8_entryOf rfl rfl rfl (by decide +kernel) ⟨Nat.le_of_ble_eq_true rfl, Nat.le_of_ble_eq_true rfl⟩) (va_recv hK hP (ci := 6) (q0 := 16) rfl rfl) hP hK hD hN hS rfl hl.1 rfl (Nat.le_of_ble_eq_true rfl) dL_law_744 ⟨by show cells + 0 ≤ 1053; omega, by show slots + 0 ≤ 14505; omega⟩ (fun H locs hP hD hS => ?_)
  refine lv_istore (lv' := [(6, .int r), (5, .int 0), (0, .ref bs), (1, .ref (a 0)), (2, .ref (g 0)), (3, .ref o), (4, .int x4)]) hx hb dL_law_747 hl (by decide) rfl (fun ls hl => ?_)
  refine lv_aload_n hx hb dL_law_749 rfl (lv_at hl 4 rfl) ?_
  refine ig_Vi (As := []) (rest := []) ⟨hx, hb, hml, hown, hts⟩ (fr_i (isT := [0, 1]) (fun A => c_X8_thrown l D cI cZ g A  ρ1 (mk_code ρ1) rfl) (lk_emM cI cZ cJ a g o σ ρ1 ρ1 (lk_out f r.toInt64)) rfl (fun _ h => absurd h List.not_mem_nil) (fun q : Nat => s.heap.size ≤ q)) (cwV 0 hts gL_law_X8_thrown rfl rfl rfl (by decide +kernel) ⟨Nat.le_of_ble_eq_true rfl, Nat.le_of_ble_eq_true rfl⟩) (va_recv hK hP (ci := 6) (q0 := 16) rfl rfl) hP hK hD hN hS rfl hl.1 rfl (Nat.le_of_ble_eq_true rfl) dL_law_750 ⟨by show cells + 0 ≤ 1053; omega, by show slots + 0 ≤ 14505; omega⟩ (fun H locs hP hD hS => ?_)
  refine lv_iload hx hb dL_law_753 (lv_at hl 1 rfl) ?_
  refine lv_icmp_eq (tgt := 760) hx hb dL_law_755 (by decide) (fun _ => ?_) (fun c9 => absurd hC c9)
  refine lv_iload hx hb dL_law_760 (lv_at hl 1 rfl) ?_
  refine lv_if_ne (tgt := 777) hx hb dL_law_762 (by decide) (fun c9 => absurd rfl c9) (fun _ => ?_)
  refine lv_aload_n hx hb dL_law_765 rfl (lv_at hl 5 rfl) ?_
  refine lv_iconst (v := 0) hx hb dL_law_766 (by decide) ?_
  refine va_lald hx hb hK hP 25 2 rfl rfl (show vp_in (0 : Int32) 1 by unfold vp_in; decide) dL_law_767 ?_
  refine lv_iload hx hb dL_law_768 (lv_at hl 0 rfl) ?_
  refine lv_i2l (v := r.toInt64) hx hb dL_law_770 rfl ?_
  refine W.lcmp hx hb dL_law_771 ?_
  refine lv_if_eq (tgt := 777) hx hb dL_law_772 (by decide) (fun c9 => ?_) (fun c9 => absurd (lk_same1 f r) c9)
  refine lv_goto (tgt := 968) hx hb dL_law_777 (by decide) ?_
  refine W.widen (k := cells + 1) (n := slots + 6) (by omega) (by omega) ?_
  exact KK _ _ _ _ hP hD hS (lv_sub hl [2, 3, 4, 5, 6] rfl)
set_option maxHeartbeats 4000000 in
set_option maxRecDepth 100000 in
theorem lc_entryOf_t {p : Program} {l : Launch} {e : Env} {s : State} {m : MethodId} {below : List Frame} {meth : Method} {c : Code} {D : va_G} {cI cZ cJ : ClassId} {a g : Nat → Nat} {o bs L : Nat} {xs : Nat → Int32} (CX : lk_Cx p l s m meth c D cI cZ cJ bs L xs) (x4 : Int32) (hin : ∀ j : Int32, j = 0 ∨ j = 1 ∨ j = 2 ∨ j = 3 ∨ j = 4 ∨ j = 5 → vp_in (x4 + j) L) (cells slots : Nat) (hc1 : cells + 1 ≤ 1053) (hc2 : slots + 6 ≤ 14505) (σ : ck_S) (ρ : mk_S) (f : Nat → Int64) (r : Int32) (ρ1 : mk_S) (hA : tX7_entryOf (lk_v xs x4 1) (lk_v xs x4 2) (lk_v xs x4 3) σ = some ()) (hB : fX8_entryOf (lk_v xs x4 1) (lk_v xs x4 2) (lk_v xs x4 3) ρ = some (r, ρ1)) (hC : mk_code ρ1 = 1) (H : Heap) (locs : List Loc) (ls : Array Slot) (hP : va_P D vwCl ((lk_W cI cZ cJ a g o) (σ, ρ, f)) H) (hD : va_D (fun q : Nat => s.heap.size ≤ q) ((lk_W cI cZ cJ a g o) (σ, ρ, f))) (hS : va_S (fun q : Nat => s.heap.size ≤ q) s.heap H locs) (hl : lv_has ls 7 [(0, .ref bs), (1, .ref (a 0)), (2, .ref (g 0)), (3, .ref o), (4, .int x4)])
    (KK : ∀ (f : Nat → Int64) (H : Heap) (locs : List Loc) (ls : Array Slot), va_P D vwCl ((lk_W cI cZ cJ a g o) (σ, ρ1, f)) H → va_D (fun q : Nat => s.heap.size ≤ q) ((lk_W cI cZ cJ a g o) (σ, ρ1, f)) → va_S (fun q : Nat => s.heap.size ≤ q) s.heap H locs → lv_has ls 7 [(0, .ref bs), (1, .ref (a 0)), (2, .ref (g 0)), (3, .ref o), (4, .int x4)] → W p l e room_1 s m #[Value.ref bs] below meth c H locs (cells + 1) (slots + 6) (lw_Z below #[Value.ref bs] s) (F0 m 968 ls [])) :
    W p l e room_1 s m #[Value.ref bs] below meth c H locs cells slots (lw_Z below #[Value.ref bs] s) (F0 m 700 ls []) := by
  obtain ⟨hx, hb, hr, hml, hown, hts, hSc, hbl, hlocks, hl0, hK, hN, hXk⟩ := CX
  have hbA : ¬ (fun q : Nat => s.heap.size ≤ q) bs := Nat.not_le.mpr hbl
  refine lv_aload_n hx hb dL_law_700 rfl (lv_at hl 1 rfl) ?_
  refine lv_aload_n hx hb dL_law_701 rfl (lv_at hl 0 rfl) ?_
  refine lv_iload hx hb dL_law_702 (lv_at hl 4 rfl) ?_
  refine lv_iconst (v := 1) hx hb dL_law_704 (by decide) ?_
  refine lv_iadd hx hb dL_law_705 ?_
  refine va_sld hx hb hSc hbl hbA hS (hin 1 (by decide)) dL_law_706 ?_
  refine lv_aload_n hx hb dL_law_707 rfl (lv_at hl 0 rfl) ?_
  refine lv_iload hx hb dL_law_708 (lv_at hl 4 rfl) ?_
  refine lv_iconst (v := 2) hx hb dL_law_710 (by decide) ?_
  refine lv_iadd hx hb dL_law_711 ?_
  refine va_sld hx hb hSc hbl hbA hS (hin 2 (by decide)) dL_law_712 ?_
  refine lv_aload_n hx hb dL_law_713 rfl (lv_at hl 0 rfl) ?_
  refine lv_iload hx hb dL_law_714 (lv_at hl 4 rfl) ?_
  refine lv_iconst (v := 3) hx hb dL_law_716 (by decide) ?_
  refine lv_iadd hx hb dL_law_717 ?_
  refine va_sld hx hb hSc hbl hbA hS (hin 3 (by decide)) dL_law_718 ?_
  refine lv_aload_n hx hb dL_law_719 rfl (lv_at hl 3 rfl) ?_
  refine ig_Wi (As := [.ref (a 0), .int (lk_v xs x4 1), .int (lk_v xs x4 2), .int (lk_v xs x4 3), .ref o]) (rest := []) (hh := [(0, 12, 15, 13)]) ⟨hx, hb, hml, hown, hts⟩ (t_L_entryOf l hl0 D cI cZ cJ a g o (fun q : Nat => s.heap.size ≤ q) (lk_v xs x4 1) (lk_v xs x4 2) (lk_v xs x4 3) σ ρ f hA) (vx_cwSW 5 hts gL_law_L_entryOf rfl rfl rfl (by decide +kernel) ⟨Nat.le_of_ble_eq_true rfl, Nat.le_of_ble_eq_true rfl⟩) xk_blind (xk_pre hP hK hD hN hXk hS) hS rfl hl.1 rfl (Nat.le_of_ble_eq_true rfl) dL_law_720 ⟨by show cells + 1 ≤ 1053; omega, by show slots + 6 ≤ 14505; omega⟩ (fun H locs hP hD hS => ?_)
  refine lv_istore (lv' := [(5, .int 1), (0, .ref bs), (1, .ref (a 0)), (2, .ref (g 0)), (3, .ref o), (4, .int x4)]) hx hb dL_law_723 hl (by decide) rfl (fun ls hl => ?_)
  refine lv_aload_n hx hb dL_law_725 rfl (lv_at hl 3 rfl) ?_
  refine lv_aload_n hx hb dL_law_726 rfl (lv_at hl 1 rfl) ?_
  refine lv_iload hx hb dL_law_727 (lv_at hl 5 rfl) ?_
  refine lv_iconst (v := 1) hx hb dL_law_729 (by decide) ?_
  refine lv_iadd hx hb dL_law_730 ?_
  refine va_sld hx hb hSc hbl hbA hS (hin 1 (by decide)) dL_law_731 ?_
  refine lv_aload_n hx hb dL_law_732 rfl (lv_at hl 1 rfl) ?_
  refine lv_iload hx hb dL_law_733 (lv_at hl 5 rfl) ?_
  refine lv_iconst (v := 2) hx hb dL_law_735 (by decide) ?_
  refine lv_iadd hx hb dL_law_736 ?_
  refine va_sld hx hb hSc hbl hbA hS (hin 2 (by decide)) dL_law_737 ?_
  refine lv_aload_n hx hb dL_law_738 rfl (lv_at hl 1 rfl) ?_
  refine lv_iload hx hb dL_law_739 (lv_at hl 5 rfl) ?_
  refine lv_iconst (v := 3) hx hb dL_law_741 (by decide) ?_
  refine lv_iadd hx hb dL_law_742 ?_
  refine va_sld hx hb hSc hbl hbA hS (hin 3 (by decide)) dL_law_743 ?_
  refine ig_Vi (As := [.int (lk_v xs x4 1), .int (lk_v xs x4 2), .int (lk_v xs x4 3)]) (rest := []) ⟨hx, hb, hml, hown, hts⟩ (fr_i (isT := [0, 1]) (fun A => c_X8_entryOf l D cI cZ g A (lk_v xs x4 1) (lk_v xs x4 2) (lk_v xs x4 3) ρ r ρ1 hB) (lk_emM cI cZ cJ a g o σ ρ ρ1 f) rfl (fun _ h => absurd h List.not_mem_nil) (fun q : Nat => s.heap.size ≤ q)) (cwV 3 hts gL_law_X8_entryOf rfl rfl rfl (by decide +kernel) ⟨Nat.le_of_ble_eq_true rfl, Nat.le_of_ble_eq_true rfl⟩) (va_recv hK hP (ci := 6) (q0 := 16) rfl rfl) hP hK hD hN hS rfl hl.1 rfl (Nat.le_of_ble_eq_true rfl) dL_law_744 ⟨by show (cells + 1) + 0 ≤ 1053; omega, by show (slots + 6) + 0 ≤ 14505; omega⟩ (fun H locs hP hD hS => ?_)
  refine lv_istore (lv' := [(6, .int r), (5, .int 1), (0, .ref bs), (1, .ref (a 0)), (2, .ref (g 0)), (3, .ref o), (4, .int x4)]) hx hb dL_law_747 hl (by decide) rfl (fun ls hl => ?_)
  refine lv_aload_n hx hb dL_law_749 rfl (lv_at hl 4 rfl) ?_
  refine ig_Vi (As := []) (rest := []) ⟨hx, hb, hml, hown, hts⟩ (fr_i (isT := [0, 1]) (fun A => c_X8_thrown l D cI cZ g A  ρ1 (mk_code ρ1) rfl) (lk_emM cI cZ cJ a g o σ ρ1 ρ1 f) rfl (fun _ h => absurd h List.not_mem_nil) (fun q : Nat => s.heap.size ≤ q)) (cwV 0 hts gL_law_X8_thrown rfl rfl rfl (by decide +kernel) ⟨Nat.le_of_ble_eq_true rfl, Nat.le_of_ble_eq_true rfl⟩) (va_recv hK hP (ci := 6) (q0 := 16) rfl rfl) hP hK hD hN hS rfl hl.1 rfl (Nat.le_of_ble_eq_true rfl) dL_law_750 ⟨by show (cells + 1) + 0 ≤ 1053; omega, by show (slots + 6) + 0 ≤ 14505; omega⟩ (fun H locs hP hD hS => ?_)
  refine lv_iload hx hb dL_law_753 (lv_at hl 1 rfl) ?_
  refine lv_icmp_eq (tgt := 760) hx hb dL_law_755 (by decide) (fun _ => ?_) (fun c9 => absurd hC c9)
  refine lv_iload hx hb dL_law_760 (lv_at hl 1 rfl) ?_
  refine lv_if_ne (tgt := 777) hx hb dL_law_762 (by decide) (fun _ => ?_) (fun c9 => absurd c9 (by decide))
  refine lv_goto (tgt := 968) hx hb dL_law_777 (by decide) ?_
  refine W.widen (k := cells + 1) (n := slots + 6) (by omega) (by omega) ?_
  exact KK _ _ _ _ hP hD hS (lv_sub hl [2, 3, 4, 5, 6] rfl)
set_option maxHeartbeats 4000000 in
set_option maxRecDepth 100000 in
theorem lc_isTaken {p : Program} {l : Launch} {e : Env} {s : State} {m : MethodId} {below : List Frame} {meth : Method} {c : Code} {D : va_G} {cI cZ cJ : ClassId} {a g : Nat → Nat} {o bs L : Nat} {xs : Nat → Int32} (CX : lk_Cx p l s m meth c D cI cZ cJ bs L xs) (x4 : Int32) (hin : ∀ j : Int32, j = 0 ∨ j = 1 ∨ j = 2 ∨ j = 3 ∨ j = 4 ∨ j = 5 → vp_in (x4 + j) L) (cells slots : Nat) (hc1 : cells + 1 ≤ 1053) (hc2 : slots + 6 ≤ 14505) (σ : ck_S) (ρ : mk_S) (f : Nat → Int64) (r : Int32) (r8 : Int32) (ρ1 : mk_S) (hA : fX7_isTaken (lk_v xs x4 1) (lk_v xs x4 2) σ = some r) (hB : fX8_isTaken (lk_v xs x4 1) (lk_v xs x4 2) ρ = some (r8, ρ1)) (hC : mk_code ρ1 = 0) (hZ : lk_z r = lk_z r8) (H : Heap) (locs : List Loc) (ls : Array Slot) (hP : va_P D vwCl ((lk_W cI cZ cJ a g o) (σ, ρ, f)) H) (hD : va_D (fun q : Nat => s.heap.size ≤ q) ((lk_W cI cZ cJ a g o) (σ, ρ, f))) (hS : va_S (fun q : Nat => s.heap.size ≤ q) s.heap H locs) (hl : lv_has ls 7 [(0, .ref bs), (1, .ref (a 0)), (2, .ref (g 0)), (3, .ref o), (4, .int x4)])
    (KK : ∀ (f : Nat → Int64) (H : Heap) (locs : List Loc) (ls : Array Slot), va_P D vwCl ((lk_W cI cZ cJ a g o) (σ, ρ1, f)) H → va_D (fun q : Nat => s.heap.size ≤ q) ((lk_W cI cZ cJ a g o) (σ, ρ1, f)) → va_S (fun q : Nat => s.heap.size ≤ q) s.heap H locs → lv_has ls 7 [(0, .ref bs), (1, .ref (a 0)), (2, .ref (g 0)), (3, .ref o), (4, .int x4)] → W p l e room_1 s m #[Value.ref bs] below meth c H locs (cells + 1) (slots + 6) (lw_Z below #[Value.ref bs] s) (F0 m 968 ls [])) :
    W p l e room_1 s m #[Value.ref bs] below meth c H locs cells slots (lw_Z below #[Value.ref bs] s) (F0 m 780 ls []) := by
  obtain ⟨hx, hb, hr, hml, hown, hts, hSc, hbl, hlocks, hl0, hK, hN, hXk⟩ := CX
  have hbA : ¬ (fun q : Nat => s.heap.size ≤ q) bs := Nat.not_le.mpr hbl
  refine lv_aload_n hx hb dL_law_780 rfl (lv_at hl 1 rfl) ?_
  refine lv_aload_n hx hb dL_law_781 rfl (lv_at hl 0 rfl) ?_
  refine lv_iload hx hb dL_law_782 (lv_at hl 4 rfl) ?_
  refine lv_iconst (v := 1) hx hb dL_law_784 (by decide) ?_
  refine lv_iadd hx hb dL_law_785 ?_
  refine va_sld hx hb hSc hbl hbA hS (hin 1 (by decide)) dL_law_786 ?_
  refine lv_aload_n hx hb dL_law_787 rfl (lv_at hl 0 rfl) ?_
  refine lv_iload hx hb dL_law_788 (lv_at hl 4 rfl) ?_
  refine lv_iconst (v := 2) hx hb dL_law_790 (by decide) ?_
  refine lv_iadd hx hb dL_law_791 ?_
  refine va_sld hx hb hSc hbl hbA hS (hin 2 (by decide)) dL_law_792 ?_
  refine lv_aload_n hx hb dL_law_793 rfl (lv_at hl 3 rfl) ?_
  refine ig_Wi (As := [.ref (a 0), .int (lk_v xs x4 1), .int (lk_v xs x4 2), .ref o]) (rest := []) (hh := [(0, 17, 20, 13)]) ⟨hx, hb, hml, hown, hts⟩ (c_L_isTaken l D cI cZ cJ a g o (fun q : Nat => s.heap.size ≤ q) (lk_v xs x4 1) (lk_v xs x4 2) σ r ρ f hA) (vx_cwSW 4 hts gL_law_L_isTaken rfl rfl rfl (by decide +kernel) ⟨Nat.le_of_ble_eq_true rfl, Nat.le_of_ble_eq_true rfl⟩) ik_blind (ik_pre hP hK hD hN) hS rfl hl.1 rfl (Nat.le_of_ble_eq_true rfl) dL_law_794 ⟨by show cells + 0 ≤ 1053; omega, by show slots + 0 ≤ 14505; omega⟩ (fun H locs hP hD hS => ?_)
  refine lv_istore (lv' := [(5, .int 0), (0, .ref bs), (1, .ref (a 0)), (2, .ref (g 0)), (3, .ref o), (4, .int x4)]) hx hb dL_law_797 hl (by decide) rfl (fun ls hl => ?_)
  refine lv_aload_n hx hb dL_law_799 rfl (lv_at hl 3 rfl) ?_
  refine lv_aload_n hx hb dL_law_800 rfl (lv_at hl 1 rfl) ?_
  refine lv_iload hx hb dL_law_801 (lv_at hl 5 rfl) ?_
  refine lv_iconst (v := 1) hx hb dL_law_803 (by decide) ?_
  refine lv_iadd hx hb dL_law_804 ?_
  refine va_sld hx hb hSc hbl hbA hS (hin 1 (by decide)) dL_law_805 ?_
  refine lv_aload_n hx hb dL_law_806 rfl (lv_at hl 1 rfl) ?_
  refine lv_iload hx hb dL_law_807 (lv_at hl 5 rfl) ?_
  refine lv_iconst (v := 2) hx hb dL_law_809 (by decide) ?_
  refine lv_iadd hx hb dL_law_810 ?_
  refine va_sld hx hb hSc hbl hbA hS (hin 2 (by decide)) dL_law_811 ?_
  refine ig_Vi (As := [.int (lk_v xs x4 1), .int (lk_v xs x4 2)]) (rest := []) ⟨hx, hb, hml, hown, hts⟩ (fr_i (isT := [0, 1]) (fun A => c_X8_isTaken l D cI cZ g A (lk_v xs x4 1) (lk_v xs x4 2) ρ r8 ρ1 hB) (lk_emM cI cZ cJ a g o σ ρ ρ1 (lk_out f (lk_z r))) rfl (fun _ h => absurd h List.not_mem_nil) (fun q : Nat => s.heap.size ≤ q)) (cwV 2 hts gL_law_X8_isTaken rfl rfl rfl (by decide +kernel) ⟨Nat.le_of_ble_eq_true rfl, Nat.le_of_ble_eq_true rfl⟩) (va_recv hK hP (ci := 6) (q0 := 16) rfl rfl) hP hK hD hN hS rfl hl.1 rfl (Nat.le_of_ble_eq_true rfl) dL_law_812 ⟨by show cells + 0 ≤ 1053; omega, by show slots + 0 ≤ 14505; omega⟩ (fun H locs hP hD hS => ?_)
  refine lv_istore (lv' := [(6, .int r8), (5, .int 0), (0, .ref bs), (1, .ref (a 0)), (2, .ref (g 0)), (3, .ref o), (4, .int x4)]) hx hb dL_law_815 hl (by decide) rfl (fun ls hl => ?_)
  refine lv_aload_n hx hb dL_law_817 rfl (lv_at hl 4 rfl) ?_
  refine ig_Vi (As := []) (rest := []) ⟨hx, hb, hml, hown, hts⟩ (fr_i (isT := [0, 1]) (fun A => c_X8_thrown l D cI cZ g A  ρ1 (mk_code ρ1) rfl) (lk_emM cI cZ cJ a g o σ ρ1 ρ1 (lk_out f (lk_z r))) rfl (fun _ h => absurd h List.not_mem_nil) (fun q : Nat => s.heap.size ≤ q)) (cwV 0 hts gL_law_X8_thrown rfl rfl rfl (by decide +kernel) ⟨Nat.le_of_ble_eq_true rfl, Nat.le_of_ble_eq_true rfl⟩) (va_recv hK hP (ci := 6) (q0 := 16) rfl rfl) hP hK hD hN hS rfl hl.1 rfl (Nat.le_of_ble_eq_true rfl) dL_law_818 ⟨by show cells + 0 ≤ 1053; omega, by show slots + 0 ≤ 14505; omega⟩ (fun H locs hP hD hS => ?_)
  refine lv_iload hx hb dL_law_821 (lv_at hl 1 rfl) ?_
  refine lv_icmp_eq (tgt := 828) hx hb dL_law_823 (by decide) (fun _ => ?_) (fun c9 => absurd hC c9)
  refine lv_iload hx hb dL_law_828 (lv_at hl 1 rfl) ?_
  refine lv_if_ne (tgt := 852) hx hb dL_law_830 (by decide) (fun c9 => absurd rfl c9) (fun _ => ?_)
  refine lv_aload_n hx hb dL_law_833 rfl (lv_at hl 5 rfl) ?_
  refine lv_iconst (v := 0) hx hb dL_law_834 (by decide) ?_
  refine va_lald hx hb hK hP 25 2 rfl rfl (show vp_in (0 : Int32) 1 by unfold vp_in; decide) dL_law_835 ?_
  refine lv_iload hx hb dL_law_836 (lv_at hl 0 rfl) ?_
  refine lv_if_eq (tgt := 845) hx hb dL_law_838 (by decide) (fun c8 => ?_) (fun c8 => ?_)
  · have e8 : lk_z r8 = 0 := if_pos c8
    refine lv_lconst (v := 0) hx hb dL_law_845 (by decide) ?_
    refine W.lcmp hx hb dL_law_846 ?_
    refine lv_if_eq (tgt := 852) hx hb dL_law_847 (by decide) (fun c9 => ?_) (fun c9 => absurd (lk_same2 f hZ e8) c9)
    refine lv_goto (tgt := 968) hx hb dL_law_852 (by decide) ?_
    refine W.widen (k := cells + 1) (n := slots + 6) (by omega) (by omega) ?_
    exact KK _ _ _ _ hP hD hS (lv_sub hl [2, 3, 4, 5, 6] rfl)
  · have e8 : lk_z r8 = 1 := if_neg c8
    refine lv_lconst (v := 1) hx hb dL_law_841 (by decide) ?_
    refine lv_goto (tgt := 846) hx hb dL_law_842 (by decide) ?_
    refine W.lcmp hx hb dL_law_846 ?_
    refine lv_if_eq (tgt := 852) hx hb dL_law_847 (by decide) (fun c9 => ?_) (fun c9 => absurd (lk_same2 f hZ e8) c9)
    refine lv_goto (tgt := 968) hx hb dL_law_852 (by decide) ?_
    refine W.widen (k := cells + 1) (n := slots + 6) (by omega) (by omega) ?_
    exact KK _ _ _ _ hP hD hS (lv_sub hl [2, 3, 4, 5, 6] rfl)
set_option maxHeartbeats 4000000 in
set_option maxRecDepth 100000 in
theorem lc_isTaken_t {p : Program} {l : Launch} {e : Env} {s : State} {m : MethodId} {below : List Frame} {meth : Method} {c : Code} {D : va_G} {cI cZ cJ : ClassId} {a g : Nat → Nat} {o bs L : Nat} {xs : Nat → Int32} (CX : lk_Cx p l s m meth c D cI cZ cJ bs L xs) (x4 : Int32) (hin : ∀ j : Int32, j = 0 ∨ j = 1 ∨ j = 2 ∨ j = 3 ∨ j = 4 ∨ j = 5 → vp_in (x4 + j) L) (cells slots : Nat) (hc1 : cells + 1 ≤ 1053) (hc2 : slots + 6 ≤ 14505) (σ : ck_S) (ρ : mk_S) (f : Nat → Int64) (r8 : Int32) (ρ1 : mk_S) (hA : tX7_isTaken (lk_v xs x4 1) (lk_v xs x4 2) σ = some ()) (hB : fX8_isTaken (lk_v xs x4 1) (lk_v xs x4 2) ρ = some (r8, ρ1)) (hC : mk_code ρ1 = 1) (H : Heap) (locs : List Loc) (ls : Array Slot) (hP : va_P D vwCl ((lk_W cI cZ cJ a g o) (σ, ρ, f)) H) (hD : va_D (fun q : Nat => s.heap.size ≤ q) ((lk_W cI cZ cJ a g o) (σ, ρ, f))) (hS : va_S (fun q : Nat => s.heap.size ≤ q) s.heap H locs) (hl : lv_has ls 7 [(0, .ref bs), (1, .ref (a 0)), (2, .ref (g 0)), (3, .ref o), (4, .int x4)])
    (KK : ∀ (f : Nat → Int64) (H : Heap) (locs : List Loc) (ls : Array Slot), va_P D vwCl ((lk_W cI cZ cJ a g o) (σ, ρ1, f)) H → va_D (fun q : Nat => s.heap.size ≤ q) ((lk_W cI cZ cJ a g o) (σ, ρ1, f)) → va_S (fun q : Nat => s.heap.size ≤ q) s.heap H locs → lv_has ls 7 [(0, .ref bs), (1, .ref (a 0)), (2, .ref (g 0)), (3, .ref o), (4, .int x4)] → W p l e room_1 s m #[Value.ref bs] below meth c H locs (cells + 1) (slots + 6) (lw_Z below #[Value.ref bs] s) (F0 m 968 ls [])) :
    W p l e room_1 s m #[Value.ref bs] below meth c H locs cells slots (lw_Z below #[Value.ref bs] s) (F0 m 780 ls []) := by
  obtain ⟨hx, hb, hr, hml, hown, hts, hSc, hbl, hlocks, hl0, hK, hN, hXk⟩ := CX
  have hbA : ¬ (fun q : Nat => s.heap.size ≤ q) bs := Nat.not_le.mpr hbl
  refine lv_aload_n hx hb dL_law_780 rfl (lv_at hl 1 rfl) ?_
  refine lv_aload_n hx hb dL_law_781 rfl (lv_at hl 0 rfl) ?_
  refine lv_iload hx hb dL_law_782 (lv_at hl 4 rfl) ?_
  refine lv_iconst (v := 1) hx hb dL_law_784 (by decide) ?_
  refine lv_iadd hx hb dL_law_785 ?_
  refine va_sld hx hb hSc hbl hbA hS (hin 1 (by decide)) dL_law_786 ?_
  refine lv_aload_n hx hb dL_law_787 rfl (lv_at hl 0 rfl) ?_
  refine lv_iload hx hb dL_law_788 (lv_at hl 4 rfl) ?_
  refine lv_iconst (v := 2) hx hb dL_law_790 (by decide) ?_
  refine lv_iadd hx hb dL_law_791 ?_
  refine va_sld hx hb hSc hbl hbA hS (hin 2 (by decide)) dL_law_792 ?_
  refine lv_aload_n hx hb dL_law_793 rfl (lv_at hl 3 rfl) ?_
  refine ig_Wi (As := [.ref (a 0), .int (lk_v xs x4 1), .int (lk_v xs x4 2), .ref o]) (rest := []) (hh := [(0, 17, 20, 13)]) ⟨hx, hb, hml, hown, hts⟩ (t_L_isTaken l hl0 D cI cZ cJ a g o (fun q : Nat => s.heap.size ≤ q) (lk_v xs x4 1) (lk_v xs x4 2) σ ρ f hA) (vx_cwSW 4 hts gL_law_L_isTaken rfl rfl rfl (by decide +kernel) ⟨Nat.le_of_ble_eq_true rfl, Nat.le_of_ble_eq_true rfl⟩) xk_blind (xk_pre hP hK hD hN hXk hS) hS rfl hl.1 rfl (Nat.le_of_ble_eq_true rfl) dL_law_794 ⟨by show cells + 1 ≤ 1053; omega, by show slots + 6 ≤ 14505; omega⟩ (fun H locs hP hD hS => ?_)
  refine lv_istore (lv' := [(5, .int 1), (0, .ref bs), (1, .ref (a 0)), (2, .ref (g 0)), (3, .ref o), (4, .int x4)]) hx hb dL_law_797 hl (by decide) rfl (fun ls hl => ?_)
  refine lv_aload_n hx hb dL_law_799 rfl (lv_at hl 3 rfl) ?_
  refine lv_aload_n hx hb dL_law_800 rfl (lv_at hl 1 rfl) ?_
  refine lv_iload hx hb dL_law_801 (lv_at hl 5 rfl) ?_
  refine lv_iconst (v := 1) hx hb dL_law_803 (by decide) ?_
  refine lv_iadd hx hb dL_law_804 ?_
  refine va_sld hx hb hSc hbl hbA hS (hin 1 (by decide)) dL_law_805 ?_
  refine lv_aload_n hx hb dL_law_806 rfl (lv_at hl 1 rfl) ?_
  refine lv_iload hx hb dL_law_807 (lv_at hl 5 rfl) ?_
  refine lv_iconst (v := 2) hx hb dL_law_809 (by decide) ?_
  refine lv_iadd hx hb dL_law_810 ?_
  refine va_sld hx hb hSc hbl hbA hS (hin 2 (by decide)) dL_law_811 ?_
  refine ig_Vi (As := [.int (lk_v xs x4 1), .int (lk_v xs x4 2)]) (rest := []) ⟨hx, hb, hml, hown, hts⟩ (fr_i (isT := [0, 1]) (fun A => c_X8_isTaken l D cI cZ g A (lk_v xs x4 1) (lk_v xs x4 2) ρ r8 ρ1 hB) (lk_emM cI cZ cJ a g o σ ρ ρ1 f) rfl (fun _ h => absurd h List.not_mem_nil) (fun q : Nat => s.heap.size ≤ q)) (cwV 2 hts gL_law_X8_isTaken rfl rfl rfl (by decide +kernel) ⟨Nat.le_of_ble_eq_true rfl, Nat.le_of_ble_eq_true rfl⟩) (va_recv hK hP (ci := 6) (q0 := 16) rfl rfl) hP hK hD hN hS rfl hl.1 rfl (Nat.le_of_ble_eq_true rfl) dL_law_812 ⟨by show (cells + 1) + 0 ≤ 1053; omega, by show (slots + 6) + 0 ≤ 14505; omega⟩ (fun H locs hP hD hS => ?_)
  refine lv_istore (lv' := [(6, .int r8), (5, .int 1), (0, .ref bs), (1, .ref (a 0)), (2, .ref (g 0)), (3, .ref o), (4, .int x4)]) hx hb dL_law_815 hl (by decide) rfl (fun ls hl => ?_)
  refine lv_aload_n hx hb dL_law_817 rfl (lv_at hl 4 rfl) ?_
  refine ig_Vi (As := []) (rest := []) ⟨hx, hb, hml, hown, hts⟩ (fr_i (isT := [0, 1]) (fun A => c_X8_thrown l D cI cZ g A  ρ1 (mk_code ρ1) rfl) (lk_emM cI cZ cJ a g o σ ρ1 ρ1 f) rfl (fun _ h => absurd h List.not_mem_nil) (fun q : Nat => s.heap.size ≤ q)) (cwV 0 hts gL_law_X8_thrown rfl rfl rfl (by decide +kernel) ⟨Nat.le_of_ble_eq_true rfl, Nat.le_of_ble_eq_true rfl⟩) (va_recv hK hP (ci := 6) (q0 := 16) rfl rfl) hP hK hD hN hS rfl hl.1 rfl (Nat.le_of_ble_eq_true rfl) dL_law_818 ⟨by show (cells + 1) + 0 ≤ 1053; omega, by show (slots + 6) + 0 ≤ 14505; omega⟩ (fun H locs hP hD hS => ?_)
  refine lv_iload hx hb dL_law_821 (lv_at hl 1 rfl) ?_
  refine lv_icmp_eq (tgt := 828) hx hb dL_law_823 (by decide) (fun _ => ?_) (fun c9 => absurd hC c9)
  refine lv_iload hx hb dL_law_828 (lv_at hl 1 rfl) ?_
  refine lv_if_ne (tgt := 852) hx hb dL_law_830 (by decide) (fun _ => ?_) (fun c9 => absurd c9 (by decide))
  refine lv_goto (tgt := 968) hx hb dL_law_852 (by decide) ?_
  refine W.widen (k := cells + 1) (n := slots + 6) (by omega) (by omega) ?_
  exact KK _ _ _ _ hP hD hS (lv_sub hl [2, 3, 4, 5, 6] rfl)
set_option maxHeartbeats 4000000 in
set_option maxRecDepth 100000 in
theorem lc_told {p : Program} {l : Launch} {e : Env} {s : State} {m : MethodId} {below : List Frame} {meth : Method} {c : Code} {D : va_G} {cI cZ cJ : ClassId} {a g : Nat → Nat} {o bs L : Nat} {xs : Nat → Int32} (CX : lk_Cx p l s m meth c D cI cZ cJ bs L xs) (x4 : Int32) (hin : ∀ j : Int32, j = 0 ∨ j = 1 ∨ j = 2 ∨ j = 3 ∨ j = 4 ∨ j = 5 → vp_in (x4 + j) L) (cells slots : Nat) (hc1 : cells + 1 ≤ 1053) (hc2 : slots + 6 ≤ 14505) (σ : ck_S) (ρ : mk_S) (f : Nat → Int64) (r : Int32) (ρ1 : mk_S) (hA : fX7_told (lk_v xs x4 1) σ = some r) (hB : fX8_told (lk_v xs x4 1) ρ = some (r, ρ1)) (hC : mk_code ρ1 = 0) (H : Heap) (locs : List Loc) (ls : Array Slot) (hP : va_P D vwCl ((lk_W cI cZ cJ a g o) (σ, ρ, f)) H) (hD : va_D (fun q : Nat => s.heap.size ≤ q) ((lk_W cI cZ cJ a g o) (σ, ρ, f))) (hS : va_S (fun q : Nat => s.heap.size ≤ q) s.heap H locs) (hl : lv_has ls 7 [(0, .ref bs), (1, .ref (a 0)), (2, .ref (g 0)), (3, .ref o), (4, .int x4)])
    (KK : ∀ (f : Nat → Int64) (H : Heap) (locs : List Loc) (ls : Array Slot), va_P D vwCl ((lk_W cI cZ cJ a g o) (σ, ρ1, f)) H → va_D (fun q : Nat => s.heap.size ≤ q) ((lk_W cI cZ cJ a g o) (σ, ρ1, f)) → va_S (fun q : Nat => s.heap.size ≤ q) s.heap H locs → lv_has ls 7 [(0, .ref bs), (1, .ref (a 0)), (2, .ref (g 0)), (3, .ref o), (4, .int x4)] → W p l e room_1 s m #[Value.ref bs] below meth c H locs (cells + 1) (slots + 6) (lw_Z below #[Value.ref bs] s) (F0 m 968 ls [])) :
    W p l e room_1 s m #[Value.ref bs] below meth c H locs cells slots (lw_Z below #[Value.ref bs] s) (F0 m 855 ls []) := by
  obtain ⟨hx, hb, hr, hml, hown, hts, hSc, hbl, hlocks, hl0, hK, hN, hXk⟩ := CX
  have hbA : ¬ (fun q : Nat => s.heap.size ≤ q) bs := Nat.not_le.mpr hbl
  refine lv_aload_n hx hb dL_law_855 rfl (lv_at hl 1 rfl) ?_
  refine lv_aload_n hx hb dL_law_856 rfl (lv_at hl 0 rfl) ?_
  refine lv_iload hx hb dL_law_857 (lv_at hl 4 rfl) ?_
  refine lv_iconst (v := 1) hx hb dL_law_859 (by decide) ?_
  refine lv_iadd hx hb dL_law_860 ?_
  refine va_sld hx hb hSc hbl hbA hS (hin 1 (by decide)) dL_law_861 ?_
  refine lv_aload_n hx hb dL_law_862 rfl (lv_at hl 3 rfl) ?_
  refine ig_Wi (As := [.ref (a 0), .int (lk_v xs x4 1), .ref o]) (rest := []) (hh := [(0, 9, 12, 13)]) ⟨hx, hb, hml, hown, hts⟩ (c_L_told l D cI cZ cJ a g o (fun q : Nat => s.heap.size ≤ q) (lk_v xs x4 1) σ r ρ f hA) (vx_cwSW 3 hts gL_law_L_told rfl rfl rfl (by decide +kernel) ⟨Nat.le_of_ble_eq_true rfl, Nat.le_of_ble_eq_true rfl⟩) ik_blind (ik_pre hP hK hD hN) hS rfl hl.1 rfl (Nat.le_of_ble_eq_true rfl) dL_law_863 ⟨by show cells + 0 ≤ 1053; omega, by show slots + 0 ≤ 14505; omega⟩ (fun H locs hP hD hS => ?_)
  refine lv_istore (lv' := [(5, .int 0), (0, .ref bs), (1, .ref (a 0)), (2, .ref (g 0)), (3, .ref o), (4, .int x4)]) hx hb dL_law_866 hl (by decide) rfl (fun ls hl => ?_)
  refine lv_aload_n hx hb dL_law_868 rfl (lv_at hl 3 rfl) ?_
  refine lv_aload_n hx hb dL_law_869 rfl (lv_at hl 1 rfl) ?_
  refine lv_iload hx hb dL_law_870 (lv_at hl 5 rfl) ?_
  refine lv_iconst (v := 1) hx hb dL_law_872 (by decide) ?_
  refine lv_iadd hx hb dL_law_873 ?_
  refine va_sld hx hb hSc hbl hbA hS (hin 1 (by decide)) dL_law_874 ?_
  refine ig_Vi (As := [.int (lk_v xs x4 1)]) (rest := []) ⟨hx, hb, hml, hown, hts⟩ (fr_i (isT := [0, 1]) (fun A => c_X8_told l D cI cZ g A (lk_v xs x4 1) ρ r ρ1 hB) (lk_emM cI cZ cJ a g o σ ρ ρ1 (lk_out f r.toInt64)) rfl (fun _ h => absurd h List.not_mem_nil) (fun q : Nat => s.heap.size ≤ q)) (cwV 1 hts gL_law_X8_told rfl rfl rfl (by decide +kernel) ⟨Nat.le_of_ble_eq_true rfl, Nat.le_of_ble_eq_true rfl⟩) (va_recv hK hP (ci := 6) (q0 := 16) rfl rfl) hP hK hD hN hS rfl hl.1 rfl (Nat.le_of_ble_eq_true rfl) dL_law_875 ⟨by show cells + 0 ≤ 1053; omega, by show slots + 0 ≤ 14505; omega⟩ (fun H locs hP hD hS => ?_)
  refine lv_istore (lv' := [(6, .int r), (5, .int 0), (0, .ref bs), (1, .ref (a 0)), (2, .ref (g 0)), (3, .ref o), (4, .int x4)]) hx hb dL_law_878 hl (by decide) rfl (fun ls hl => ?_)
  refine lv_aload_n hx hb dL_law_880 rfl (lv_at hl 4 rfl) ?_
  refine ig_Vi (As := []) (rest := []) ⟨hx, hb, hml, hown, hts⟩ (fr_i (isT := [0, 1]) (fun A => c_X8_thrown l D cI cZ g A  ρ1 (mk_code ρ1) rfl) (lk_emM cI cZ cJ a g o σ ρ1 ρ1 (lk_out f r.toInt64)) rfl (fun _ h => absurd h List.not_mem_nil) (fun q : Nat => s.heap.size ≤ q)) (cwV 0 hts gL_law_X8_thrown rfl rfl rfl (by decide +kernel) ⟨Nat.le_of_ble_eq_true rfl, Nat.le_of_ble_eq_true rfl⟩) (va_recv hK hP (ci := 6) (q0 := 16) rfl rfl) hP hK hD hN hS rfl hl.1 rfl (Nat.le_of_ble_eq_true rfl) dL_law_881 ⟨by show cells + 0 ≤ 1053; omega, by show slots + 0 ≤ 14505; omega⟩ (fun H locs hP hD hS => ?_)
  refine lv_iload hx hb dL_law_884 (lv_at hl 1 rfl) ?_
  refine lv_icmp_eq (tgt := 891) hx hb dL_law_886 (by decide) (fun _ => ?_) (fun c9 => absurd hC c9)
  refine lv_iload hx hb dL_law_891 (lv_at hl 1 rfl) ?_
  refine lv_if_ne (tgt := 908) hx hb dL_law_893 (by decide) (fun c9 => absurd rfl c9) (fun _ => ?_)
  refine lv_aload_n hx hb dL_law_896 rfl (lv_at hl 5 rfl) ?_
  refine lv_iconst (v := 0) hx hb dL_law_897 (by decide) ?_
  refine va_lald hx hb hK hP 25 2 rfl rfl (show vp_in (0 : Int32) 1 by unfold vp_in; decide) dL_law_898 ?_
  refine lv_iload hx hb dL_law_899 (lv_at hl 0 rfl) ?_
  refine lv_i2l (v := r.toInt64) hx hb dL_law_901 rfl ?_
  refine W.lcmp hx hb dL_law_902 ?_
  refine lv_if_eq (tgt := 908) hx hb dL_law_903 (by decide) (fun c9 => ?_) (fun c9 => absurd (lk_same1 f r) c9)
  refine lv_goto (tgt := 968) hx hb dL_law_908 (by decide) ?_
  refine W.widen (k := cells + 1) (n := slots + 6) (by omega) (by omega) ?_
  exact KK _ _ _ _ hP hD hS (lv_sub hl [2, 3, 4, 5, 6] rfl)
set_option maxHeartbeats 4000000 in
set_option maxRecDepth 100000 in
theorem lc_told_t {p : Program} {l : Launch} {e : Env} {s : State} {m : MethodId} {below : List Frame} {meth : Method} {c : Code} {D : va_G} {cI cZ cJ : ClassId} {a g : Nat → Nat} {o bs L : Nat} {xs : Nat → Int32} (CX : lk_Cx p l s m meth c D cI cZ cJ bs L xs) (x4 : Int32) (hin : ∀ j : Int32, j = 0 ∨ j = 1 ∨ j = 2 ∨ j = 3 ∨ j = 4 ∨ j = 5 → vp_in (x4 + j) L) (cells slots : Nat) (hc1 : cells + 1 ≤ 1053) (hc2 : slots + 6 ≤ 14505) (σ : ck_S) (ρ : mk_S) (f : Nat → Int64) (r : Int32) (ρ1 : mk_S) (hA : tX7_told (lk_v xs x4 1) σ = some ()) (hB : fX8_told (lk_v xs x4 1) ρ = some (r, ρ1)) (hC : mk_code ρ1 = 1) (H : Heap) (locs : List Loc) (ls : Array Slot) (hP : va_P D vwCl ((lk_W cI cZ cJ a g o) (σ, ρ, f)) H) (hD : va_D (fun q : Nat => s.heap.size ≤ q) ((lk_W cI cZ cJ a g o) (σ, ρ, f))) (hS : va_S (fun q : Nat => s.heap.size ≤ q) s.heap H locs) (hl : lv_has ls 7 [(0, .ref bs), (1, .ref (a 0)), (2, .ref (g 0)), (3, .ref o), (4, .int x4)])
    (KK : ∀ (f : Nat → Int64) (H : Heap) (locs : List Loc) (ls : Array Slot), va_P D vwCl ((lk_W cI cZ cJ a g o) (σ, ρ1, f)) H → va_D (fun q : Nat => s.heap.size ≤ q) ((lk_W cI cZ cJ a g o) (σ, ρ1, f)) → va_S (fun q : Nat => s.heap.size ≤ q) s.heap H locs → lv_has ls 7 [(0, .ref bs), (1, .ref (a 0)), (2, .ref (g 0)), (3, .ref o), (4, .int x4)] → W p l e room_1 s m #[Value.ref bs] below meth c H locs (cells + 1) (slots + 6) (lw_Z below #[Value.ref bs] s) (F0 m 968 ls [])) :
    W p l e room_1 s m #[Value.ref bs] below meth c H locs cells slots (lw_Z below #[Value.ref bs] s) (F0 m 855 ls []) := by
  obtain ⟨hx, hb, hr, hml, hown, hts, hSc, hbl, hlocks, hl0, hK, hN, hXk⟩ := CX
  have hbA : ¬ (fun q : Nat => s.heap.size ≤ q) bs := Nat.not_le.mpr hbl
  refine lv_aload_n hx hb dL_law_855 rfl (lv_at hl 1 rfl) ?_
  refine lv_aload_n hx hb dL_law_856 rfl (lv_at hl 0 rfl) ?_
  refine lv_iload hx hb dL_law_857 (lv_at hl 4 rfl) ?_
  refine lv_iconst (v := 1) hx hb dL_law_859 (by decide) ?_
  refine lv_iadd hx hb dL_law_860 ?_
  refine va_sld hx hb hSc hbl hbA hS (hin 1 (by decide)) dL_law_861 ?_
  refine lv_aload_n hx hb dL_law_862 rfl (lv_at hl 3 rfl) ?_
  refine ig_Wi (As := [.ref (a 0), .int (lk_v xs x4 1), .ref o]) (rest := []) (hh := [(0, 9, 12, 13)]) ⟨hx, hb, hml, hown, hts⟩ (t_L_told l hl0 D cI cZ cJ a g o (fun q : Nat => s.heap.size ≤ q) (lk_v xs x4 1) σ ρ f hA) (vx_cwSW 3 hts gL_law_L_told rfl rfl rfl (by decide +kernel) ⟨Nat.le_of_ble_eq_true rfl, Nat.le_of_ble_eq_true rfl⟩) xk_blind (xk_pre hP hK hD hN hXk hS) hS rfl hl.1 rfl (Nat.le_of_ble_eq_true rfl) dL_law_863 ⟨by show cells + 1 ≤ 1053; omega, by show slots + 6 ≤ 14505; omega⟩ (fun H locs hP hD hS => ?_)
  refine lv_istore (lv' := [(5, .int 1), (0, .ref bs), (1, .ref (a 0)), (2, .ref (g 0)), (3, .ref o), (4, .int x4)]) hx hb dL_law_866 hl (by decide) rfl (fun ls hl => ?_)
  refine lv_aload_n hx hb dL_law_868 rfl (lv_at hl 3 rfl) ?_
  refine lv_aload_n hx hb dL_law_869 rfl (lv_at hl 1 rfl) ?_
  refine lv_iload hx hb dL_law_870 (lv_at hl 5 rfl) ?_
  refine lv_iconst (v := 1) hx hb dL_law_872 (by decide) ?_
  refine lv_iadd hx hb dL_law_873 ?_
  refine va_sld hx hb hSc hbl hbA hS (hin 1 (by decide)) dL_law_874 ?_
  refine ig_Vi (As := [.int (lk_v xs x4 1)]) (rest := []) ⟨hx, hb, hml, hown, hts⟩ (fr_i (isT := [0, 1]) (fun A => c_X8_told l D cI cZ g A (lk_v xs x4 1) ρ r ρ1 hB) (lk_emM cI cZ cJ a g o σ ρ ρ1 f) rfl (fun _ h => absurd h List.not_mem_nil) (fun q : Nat => s.heap.size ≤ q)) (cwV 1 hts gL_law_X8_told rfl rfl rfl (by decide +kernel) ⟨Nat.le_of_ble_eq_true rfl, Nat.le_of_ble_eq_true rfl⟩) (va_recv hK hP (ci := 6) (q0 := 16) rfl rfl) hP hK hD hN hS rfl hl.1 rfl (Nat.le_of_ble_eq_true rfl) dL_law_875 ⟨by show (cells + 1) + 0 ≤ 1053; omega, by show (slots + 6) + 0 ≤ 14505; omega⟩ (fun H locs hP hD hS => ?_)
  refine lv_istore (lv' := [(6, .int r), (5, .int 1), (0, .ref bs), (1, .ref (a 0)), (2, .ref (g 0)), (3, .ref o), (4, .int x4)]) hx hb dL_law_878 hl (by decide) rfl (fun ls hl => ?_)
  refine lv_aload_n hx hb dL_law_880 rfl (lv_at hl 4 rfl) ?_
  refine ig_Vi (As := []) (rest := []) ⟨hx, hb, hml, hown, hts⟩ (fr_i (isT := [0, 1]) (fun A => c_X8_thrown l D cI cZ g A  ρ1 (mk_code ρ1) rfl) (lk_emM cI cZ cJ a g o σ ρ1 ρ1 f) rfl (fun _ h => absurd h List.not_mem_nil) (fun q : Nat => s.heap.size ≤ q)) (cwV 0 hts gL_law_X8_thrown rfl rfl rfl (by decide +kernel) ⟨Nat.le_of_ble_eq_true rfl, Nat.le_of_ble_eq_true rfl⟩) (va_recv hK hP (ci := 6) (q0 := 16) rfl rfl) hP hK hD hN hS rfl hl.1 rfl (Nat.le_of_ble_eq_true rfl) dL_law_881 ⟨by show (cells + 1) + 0 ≤ 1053; omega, by show (slots + 6) + 0 ≤ 14505; omega⟩ (fun H locs hP hD hS => ?_)
  refine lv_iload hx hb dL_law_884 (lv_at hl 1 rfl) ?_
  refine lv_icmp_eq (tgt := 891) hx hb dL_law_886 (by decide) (fun _ => ?_) (fun c9 => absurd hC c9)
  refine lv_iload hx hb dL_law_891 (lv_at hl 1 rfl) ?_
  refine lv_if_ne (tgt := 908) hx hb dL_law_893 (by decide) (fun _ => ?_) (fun c9 => absurd c9 (by decide))
  refine lv_goto (tgt := 968) hx hb dL_law_908 (by decide) ?_
  refine W.widen (k := cells + 1) (n := slots + 6) (by omega) (by omega) ?_
  exact KK _ _ _ _ hP hD hS (lv_sub hl [2, 3, 4, 5, 6] rfl)
set_option maxHeartbeats 4000000 in
set_option maxRecDepth 100000 in
theorem lc_find {p : Program} {l : Launch} {e : Env} {s : State} {m : MethodId} {below : List Frame} {meth : Method} {c : Code} {D : va_G} {cI cZ cJ : ClassId} {a g : Nat → Nat} {o bs L : Nat} {xs : Nat → Int32} (CX : lk_Cx p l s m meth c D cI cZ cJ bs L xs) (x4 : Int32) (hin : ∀ j : Int32, j = 0 ∨ j = 1 ∨ j = 2 ∨ j = 3 ∨ j = 4 ∨ j = 5 → vp_in (x4 + j) L) (cells slots : Nat) (hc1 : cells + 1 ≤ 1053) (hc2 : slots + 6 ≤ 14505) (σ : ck_S) (ρ : mk_S) (f : Nat → Int64) (r : Int32) (ρ1 : mk_S) (hA : fX7_find (((lk_v xs x4 1).toInt64 <<< ((32 : Int32).toInt64 &&& 63)) ||| ((lk_v xs x4 2).toInt64 &&& (4294967295 : Int64))) σ = some r) (hB : fX8_find (((lk_v xs x4 1).toInt64 <<< ((32 : Int32).toInt64 &&& 63)) ||| ((lk_v xs x4 2).toInt64 &&& (4294967295 : Int64))) ρ = some (r, ρ1)) (H : Heap) (locs : List Loc) (ls : Array Slot) (hP : va_P D vwCl ((lk_W cI cZ cJ a g o) (σ, ρ, f)) H) (hD : va_D (fun q : Nat => s.heap.size ≤ q) ((lk_W cI cZ cJ a g o) (σ, ρ, f))) (hS : va_S (fun q : Nat => s.heap.size ≤ q) s.heap H locs) (hl : lv_has ls 7 [(0, .ref bs), (1, .ref (a 0)), (2, .ref (g 0)), (3, .ref o), (4, .int x4)])
    (KK : ∀ (f : Nat → Int64) (H : Heap) (locs : List Loc) (ls : Array Slot), va_P D vwCl ((lk_W cI cZ cJ a g o) (σ, ρ1, f)) H → va_D (fun q : Nat => s.heap.size ≤ q) ((lk_W cI cZ cJ a g o) (σ, ρ1, f)) → va_S (fun q : Nat => s.heap.size ≤ q) s.heap H locs → lv_has ls 7 [(0, .ref bs), (1, .ref (a 0)), (2, .ref (g 0)), (3, .ref o), (4, .int x4)] → W p l e room_1 s m #[Value.ref bs] below meth c H locs (cells + 1) (slots + 6) (lw_Z below #[Value.ref bs] s) (F0 m 968 ls [])) :
    W p l e room_1 s m #[Value.ref bs] below meth c H locs cells slots (lw_Z below #[Value.ref bs] s) (F0 m 911 ls []) := by
  obtain ⟨hx, hb, hr, hml, hown, hts, hSc, hbl, hlocks, hl0, hK, hN, hXk⟩ := CX
  have hbA : ¬ (fun q : Nat => s.heap.size ≤ q) bs := Nat.not_le.mpr hbl
  refine lv_aload_n hx hb dL_law_911 rfl (lv_at hl 1 rfl) ?_
  refine lv_aload_n hx hb dL_law_912 rfl (lv_at hl 0 rfl) ?_
  refine lv_iload hx hb dL_law_913 (lv_at hl 4 rfl) ?_
  refine lv_iconst (v := 1) hx hb dL_law_915 (by decide) ?_
  refine lv_iadd hx hb dL_law_916 ?_
  refine va_sld hx hb hSc hbl hbA hS (hin 1 (by decide)) dL_law_917 ?_
  refine lv_i2l (v := (lk_v xs x4 1).toInt64) hx hb dL_law_918 rfl ?_
  refine lv_bipush (v := 32) hx hb dL_law_919 (by decide) ?_
  refine lv_lshl (v := ((lk_v xs x4 1).toInt64) <<< ((32 : Int32).toInt64 &&& 63)) hx hb dL_law_921 rfl ?_
  refine lv_aload_n hx hb dL_law_922 rfl (lv_at hl 0 rfl) ?_
  refine lv_iload hx hb dL_law_923 (lv_at hl 4 rfl) ?_
  refine lv_iconst (v := 2) hx hb dL_law_925 (by decide) ?_
  refine lv_iadd hx hb dL_law_926 ?_
  refine va_sld hx hb hSc hbl hbA hS (hin 2 (by decide)) dL_law_927 ?_
  refine lv_i2l (v := (lk_v xs x4 2).toInt64) hx hb dL_law_928 rfl ?_
  refine lv_ldc2 (v := (4294967295 : Int64)) hx hb hown (hts (.constantLong RL 112 4294967295) (by decide +kernel)) dL_law_929 ?_
  refine lv_land hx hb dL_law_932 ?_
  refine lv_lor hx hb dL_law_933 ?_
  refine ig_Vi (As := [.long ((((lk_v xs x4 1).toInt64) <<< ((32 : Int32).toInt64 &&& 63)) ||| (((lk_v xs x4 2).toInt64) &&& (4294967295 : Int64)))]) (rest := []) ⟨hx, hb, hml, hown, hts⟩ (fr_i (isT := [0, 1]) (fun A => c_X7_find l D cI cZ a A ((((lk_v xs x4 1).toInt64) <<< ((32 : Int32).toInt64 &&& 63)) ||| (((lk_v xs x4 2).toInt64) &&& (4294967295 : Int64))) σ r hA) (lk_em cI cZ cJ a g o σ σ ρ f) rfl (fun _ h => h) (fun q : Nat => s.heap.size ≤ q)) (cwV 1 hts gL_law_X7_find rfl rfl rfl (by decide +kernel) ⟨Nat.le_of_ble_eq_true rfl, Nat.le_of_ble_eq_true rfl⟩) (va_recv hK hP (ci := 5) (q0 := 0) rfl rfl) hP hK hD hN hS rfl hl.1 rfl (Nat.le_of_ble_eq_true rfl) dL_law_934 ⟨by show cells + 0 ≤ 1053; omega, by show slots + 0 ≤ 14505; omega⟩ (fun H locs hP hD hS => ?_)
  refine lv_aload_n hx hb dL_law_937 rfl (lv_at hl 2 rfl) ?_
  refine lv_aload_n hx hb dL_law_938 rfl (lv_at hl 0 rfl) ?_
  refine lv_iload hx hb dL_law_939 (lv_at hl 4 rfl) ?_
  refine lv_iconst (v := 1) hx hb dL_law_941 (by decide) ?_
  refine lv_iadd hx hb dL_law_942 ?_
  refine va_sld hx hb hSc hbl hbA hS (hin 1 (by decide)) dL_law_943 ?_
  refine lv_i2l (v := (lk_v xs x4 1).toInt64) hx hb dL_law_944 rfl ?_
  refine lv_bipush (v := 32) hx hb dL_law_945 (by decide) ?_
  refine lv_lshl (v := ((lk_v xs x4 1).toInt64) <<< ((32 : Int32).toInt64 &&& 63)) hx hb dL_law_947 rfl ?_
  refine lv_aload_n hx hb dL_law_948 rfl (lv_at hl 0 rfl) ?_
  refine lv_iload hx hb dL_law_949 (lv_at hl 4 rfl) ?_
  refine lv_iconst (v := 2) hx hb dL_law_951 (by decide) ?_
  refine lv_iadd hx hb dL_law_952 ?_
  refine va_sld hx hb hSc hbl hbA hS (hin 2 (by decide)) dL_law_953 ?_
  refine lv_i2l (v := (lk_v xs x4 2).toInt64) hx hb dL_law_954 rfl ?_
  refine lv_ldc2 (v := (4294967295 : Int64)) hx hb hown (hts (.constantLong RL 112 4294967295) (by decide +kernel)) dL_law_955 ?_
  refine lv_land hx hb dL_law_958 ?_
  refine lv_lor hx hb dL_law_959 ?_
  refine ig_Vi (As := [.long ((((lk_v xs x4 1).toInt64) <<< ((32 : Int32).toInt64 &&& 63)) ||| (((lk_v xs x4 2).toInt64) &&& (4294967295 : Int64)))]) (rest := [.int r]) ⟨hx, hb, hml, hown, hts⟩ (fr_i (isT := [0, 1]) (fun A => c_X8_find l D cI cZ g A ((((lk_v xs x4 1).toInt64) <<< ((32 : Int32).toInt64 &&& 63)) ||| (((lk_v xs x4 2).toInt64) &&& (4294967295 : Int64))) ρ r ρ1 hB) (lk_emM cI cZ cJ a g o σ ρ ρ1 f) rfl (fun _ h => absurd h List.not_mem_nil) (fun q : Nat => s.heap.size ≤ q)) (cwV 1 hts gL_law_X8_find rfl rfl rfl (by decide +kernel) ⟨Nat.le_of_ble_eq_true rfl, Nat.le_of_ble_eq_true rfl⟩) (va_recv hK hP (ci := 6) (q0 := 16) rfl rfl) hP hK hD hN hS rfl hl.1 rfl (Nat.le_of_ble_eq_true rfl) dL_law_960 ⟨by show cells + 0 ≤ 1053; omega, by show slots + 0 ≤ 14505; omega⟩ (fun H locs hP hD hS => ?_)
  refine lv_icmp_eq (tgt := 968) hx hb dL_law_963 (by decide) (fun _ => ?_) (fun c9 => absurd rfl c9)
  refine W.widen (k := cells + 1) (n := slots + 6) (by omega) (by omega) ?_
  exact KK _ _ _ _ hP hD hS (lv_sub hl [0, 1, 2, 3, 4] rfl)
