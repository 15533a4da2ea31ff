set_option maxHeartbeats 4000000 in
set_option maxRecDepth 100000 in
theorem lc_bit {p : Program} {l : Launch} {e : Env} {s : State} {m : MethodId} {below : List Frame} {meth : Method} {c : Code} {D : va_G} {cI cZ cJ : ClassId} {a g : Nat → Nat} {o bs L : Nat} {xs : Nat → Int32} (CX : lk_Cx p l s m meth c D cI cZ cJ bs L xs) (x4 : Int32) (hin : ∀ j : Int32, j = 0 ∨ j = 1 ∨ j = 2 ∨ j = 3 ∨ j = 4 ∨ j = 5 → vp_in (x4 + j) L) (cells slots : Nat) (hc1 : cells + 1 ≤ 1053) (hc2 : slots + 6 ≤ 14505) (σ : ck_S) (ρ : mk_S) (f : Nat → Int64) (σ1 : ck_S) (ρ1 : mk_S) (hA : fX7_bit (lk_v xs x4 1) (lk_v xs x4 2) (lk_b (lk_v xs x4 3)) σ = some σ1) (hB : fX8_bit (lk_v xs x4 1) (lk_v xs x4 2) (lk_b (lk_v xs x4 3)) ρ = some ρ1) (hC : mk_code ρ1 = 0) (H : Heap) (locs : List Loc) (ls : Array Slot) (hP : va_P D vwCl ((lk_W cI cZ cJ a g o) (σ, ρ, f)) H) (hD : va_D (fun q : Nat => s.heap.size ≤ q) ((lk_W cI cZ cJ a g o) (σ, ρ, f))) (hS : va_S (fun q : Nat => s.heap.size ≤ q) s.heap H locs) (hl : lv_has ls 7 [(0, .ref bs), (1, .ref (a 0)), (2, .ref (g 0)), (3, .ref o), (4, .int x4)])
    (KK : ∀ (f : Nat → Int64) (H : Heap) (locs : List Loc) (ls : Array Slot), va_P D vwCl ((lk_W cI cZ cJ a g o) (σ1, ρ1, f)) H → va_D (fun q : Nat => s.heap.size ≤ q) ((lk_W cI cZ cJ a g o) (σ1, ρ1, f)) → va_S (fun q : Nat => s.heap.size ≤ q) s.heap H locs → lv_has ls 7 [(0, .ref bs), (1, .ref (a 0)), (2, .ref (g 0)), (3, .ref o), (4, .int x4)] → W p l e room_1 s m #[Value.ref bs] below meth c H locs (cells + 1) (slots + 6) (lw_Z below #[Value.ref bs] s) (F0 m 968 ls [])) :
    W p l e room_1 s m #[Value.ref bs] below meth c H locs cells slots (lw_Z below #[Value.ref bs] s) (F0 m 415 ls []) := by
  obtain ⟨hx, hb, hr, hml, hown, hts, hSc, hbl, hlocks, hl0, hK, hN, hXk⟩ := CX
  have hbA : ¬ (fun q : Nat => s.heap.size ≤ q) bs := Nat.not_le.mpr hbl
  refine lv_aload_n hx hb dL_law_415 rfl (lv_at hl 1 rfl) ?_
  refine lv_aload_n hx hb dL_law_416 rfl (lv_at hl 0 rfl) ?_
  refine lv_iload hx hb dL_law_417 (lv_at hl 4 rfl) ?_
  refine lv_iconst (v := 1) hx hb dL_law_419 (by decide) ?_
  refine lv_iadd hx hb dL_law_420 ?_
  refine va_sld hx hb hSc hbl hbA hS (hin 1 (by decide)) dL_law_421 ?_
  refine lv_aload_n hx hb dL_law_422 rfl (lv_at hl 0 rfl) ?_
  refine lv_iload hx hb dL_law_423 (lv_at hl 4 rfl) ?_
  refine lv_iconst (v := 2) hx hb dL_law_425 (by decide) ?_
  refine lv_iadd hx hb dL_law_426 ?_
  refine va_sld hx hb hSc hbl hbA hS (hin 2 (by decide)) dL_law_427 ?_
  refine lv_aload_n hx hb dL_law_428 rfl (lv_at hl 0 rfl) ?_
  refine lv_iload hx hb dL_law_429 (lv_at hl 4 rfl) ?_
  refine lv_iconst (v := 3) hx hb dL_law_431 (by decide) ?_
  refine lv_iadd hx hb dL_law_432 ?_
  refine va_sld hx hb hSc hbl hbA hS (hin 3 (by decide)) dL_law_433 ?_
  refine lv_if_eq (tgt := 441) hx hb dL_law_434 (by decide) (fun c7 => ?_) (fun c7 => ?_)
  · have e7 : lk_b (lk_v xs x4 3) = 0 := if_pos c7
    rw [e7] at hA hB
    refine lv_iconst (v := 0) hx hb dL_law_441 (by decide) ?_
    refine ig_Wi (As := [.ref (a 0), .int (lk_v xs x4 1), .int (lk_v xs x4 2), .int 0]) (rest := []) (hh := [(0, 7, 10, 13)]) ⟨hx, hb, hml, hown, hts⟩ (c_L_bit l D cI cZ cJ a g o (fun q : Nat => s.heap.size ≤ q) (lk_v xs x4 1) (lk_v xs x4 2) 0 σ σ1 ρ f hA) (vx_cwSW 4 hts gL_law_L_bit rfl rfl rfl (by decide +kernel) ⟨Nat.le_of_ble_eq_true rfl, Nat.le_of_ble_eq_true rfl⟩) ik_blind (ik_pre hP hK hD hN) hS rfl hl.1 rfl (Nat.le_of_ble_eq_true rfl) dL_law_442 ⟨by show cells + 0 ≤ 1053; omega, by show slots + 0 ≤ 14505; omega⟩ (fun H locs hP hD hS => ?_)
    refine lv_istore (lv' := [(5, .int 0), (0, .ref bs), (1, .ref (a 0)), (2, .ref (g 0)), (3, .ref o), (4, .int x4)]) hx hb dL_law_445 hl (by decide) rfl (fun ls hl => ?_)
    refine lv_aload_n hx hb dL_law_447 rfl (lv_at hl 3 rfl) ?_
    refine lv_aload_n hx hb dL_law_448 rfl (lv_at hl 1 rfl) ?_
    refine lv_iload hx hb dL_law_449 (lv_at hl 5 rfl) ?_
    refine lv_iconst (v := 1) hx hb dL_law_451 (by decide) ?_
    refine lv_iadd hx hb dL_law_452 ?_
    refine va_sld hx hb hSc hbl hbA hS (hin 1 (by decide)) dL_law_453 ?_
    refine lv_aload_n hx hb dL_law_454 rfl (lv_at hl 1 rfl) ?_
    refine lv_iload hx hb dL_law_455 (lv_at hl 5 rfl) ?_
    refine lv_iconst (v := 2) hx hb dL_law_457 (by decide) ?_
    refine lv_iadd hx hb dL_law_458 ?_
    refine va_sld hx hb hSc hbl hbA hS (hin 2 (by decide)) dL_law_459 ?_
    refine lv_aload_n hx hb dL_law_460 rfl (lv_at hl 1 rfl) ?_
    refine lv_iload hx hb dL_law_461 (lv_at hl 5 rfl) ?_
    refine lv_iconst (v := 3) hx hb dL_law_463 (by decide) ?_
    refine lv_iadd hx hb dL_law_464 ?_
    refine va_sld hx hb hSc hbl hbA hS (hin 3 (by decide)) dL_law_465 ?_
    refine lv_if_eq (tgt := 473) hx hb dL_law_466 (by decide) (fun _ => ?_) (fun c9 => absurd c7 c9)
    refine lv_iconst (v := 0) hx hb dL_law_473 (by decide) ?_
    refine ig_Vv (As := [.int (lk_v xs x4 1), .int (lk_v xs x4 2), .int 0]) (rest := []) ⟨hx, hb, hml, hown, hts⟩ (fr_v (isT := [0, 1]) (fun A => c_X8_bit l D cI cZ g A (lk_v xs x4 1) (lk_v xs x4 2) 0 ρ ρ1 hB) (lk_emM cI cZ cJ a g o σ1 ρ ρ1 f) rfl (fun _ h => absurd h List.not_mem_nil) (fun q : Nat => s.heap.size ≤ q)) (cwV 3 hts gL_law_X8_bit rfl rfl rfl (by decide +kernel) ⟨Nat.le_of_ble_eq_true rfl, Nat.le_of_ble_eq_true rfl⟩) (va_recv hK hP (ci := 6) (q0 := 16) rfl rfl) hP hK hD hN hS rfl hl.1 rfl (Nat.le_of_ble_eq_true rfl) dL_law_474 ⟨by show cells + 0 ≤ 1053; omega, by show slots + 0 ≤ 14505; omega⟩ (fun H locs hP hD hS => ?_)
    refine lv_aload_n hx hb dL_law_477 rfl (lv_at hl 3 rfl) ?_
    refine ig_Vi (As := []) (rest := []) ⟨hx, hb, hml, hown, hts⟩ (fr_i (isT := [0, 1]) (fun A => c_X8_thrown l D cI cZ g A  ρ1 (mk_code ρ1) rfl) (lk_emM cI cZ cJ a g o σ1 ρ1 ρ1 f) rfl (fun _ h => absurd h List.not_mem_nil) (fun q : Nat => s.heap.size ≤ q)) (cwV 0 hts gL_law_X8_thrown rfl rfl rfl (by decide +kernel) ⟨Nat.le_of_ble_eq_true rfl, Nat.le_of_ble_eq_true rfl⟩) (va_recv hK hP (ci := 6) (q0 := 16) rfl rfl) hP hK hD hN hS rfl hl.1 rfl (Nat.le_of_ble_eq_true rfl) dL_law_478 ⟨by show cells + 0 ≤ 1053; omega, by show slots + 0 ≤ 14505; omega⟩ (fun H locs hP hD hS => ?_)
    refine lv_iload hx hb dL_law_481 (lv_at hl 0 rfl) ?_
    refine lv_icmp_eq (tgt := 488) hx hb dL_law_483 (by decide) (fun _ => ?_) (fun c9 => absurd hC c9)
    refine lv_goto (tgt := 968) hx hb dL_law_488 (by decide) ?_
    refine W.widen (k := cells + 1) (n := slots + 6) (by omega) (by omega) ?_
    exact KK _ _ _ _ hP hD hS (lv_sub hl [1, 2, 3, 4, 5] rfl)
  · have e7 : lk_b (lk_v xs x4 3) = 1 := if_neg c7
    rw [e7] at hA hB
    refine lv_iconst (v := 1) hx hb dL_law_437 (by decide) ?_
    refine lv_goto (tgt := 442) hx hb dL_law_438 (by decide) ?_
    refine ig_Wi (As := [.ref (a 0), .int (lk_v xs x4 1), .int (lk_v xs x4 2), .int 1]) (rest := []) (hh := [(0, 7, 10, 13)]) ⟨hx, hb, hml, hown, hts⟩ (c_L_bit l D cI cZ cJ a g o (fun q : Nat => s.heap.size ≤ q) (lk_v xs x4 1) (lk_v xs x4 2) 1 σ σ1 ρ f hA) (vx_cwSW 4 hts gL_law_L_bit rfl rfl rfl (by decide +kernel) ⟨Nat.le_of_ble_eq_true rfl, Nat.le_of_ble_eq_true rfl⟩) ik_blind (ik_pre hP hK hD hN) hS rfl hl.1 rfl (Nat.le_of_ble_eq_true rfl) dL_law_442 ⟨by show cells + 0 ≤ 1053; omega, by show slots + 0 ≤ 14505; omega⟩ (fun H locs hP hD hS => ?_)
    refine lv_istore (lv' := [(5, .int 0), (0, .ref bs), (1, .ref (a 0)), (2, .ref (g 0)), (3, .ref o), (4, .int x4)]) hx hb dL_law_445 hl (by decide) rfl (fun ls hl => ?_)
    refine lv_aload_n hx hb dL_law_447 rfl (lv_at hl 3 rfl) ?_
    refine lv_aload_n hx hb dL_law_448 rfl (lv_at hl 1 rfl) ?_
    refine lv_iload hx hb dL_law_449 (lv_at hl 5 rfl) ?_
    refine lv_iconst (v := 1) hx hb dL_law_451 (by decide) ?_
    refine lv_iadd hx hb dL_law_452 ?_
    refine va_sld hx hb hSc hbl hbA hS (hin 1 (by decide)) dL_law_453 ?_
    refine lv_aload_n hx hb dL_law_454 rfl (lv_at hl 1 rfl) ?_
    refine lv_iload hx hb dL_law_455 (lv_at hl 5 rfl) ?_
    refine lv_iconst (v := 2) hx hb dL_law_457 (by decide) ?_
    refine lv_iadd hx hb dL_law_458 ?_
    refine va_sld hx hb hSc hbl hbA hS (hin 2 (by decide)) dL_law_459 ?_
    refine lv_aload_n hx hb dL_law_460 rfl (lv_at hl 1 rfl) ?_
    refine lv_iload hx hb dL_law_461 (lv_at hl 5 rfl) ?_
    refine lv_iconst (v := 3) hx hb dL_law_463 (by decide) ?_
    refine lv_iadd hx hb dL_law_464 ?_
    refine va_sld hx hb hSc hbl hbA hS (hin 3 (by decide)) dL_law_465 ?_
    refine lv_if_eq (tgt := 473) hx hb dL_law_466 (by decide) (fun c9 => absurd c9 c7) (fun _ => ?_)
    refine lv_iconst (v := 1) hx hb dL_law_469 (by decide) ?_
    refine lv_goto (tgt := 474) hx hb dL_law_470 (by decide) ?_
    refine ig_Vv (As := [.int (lk_v xs x4 1), .int (lk_v xs x4 2), .int 1]) (rest := []) ⟨hx, hb, hml, hown, hts⟩ (fr_v (isT := [0, 1]) (fun A => c_X8_bit l D cI cZ g A (lk_v xs x4 1) (lk_v xs x4 2) 1 ρ ρ1 hB) (lk_emM cI cZ cJ a g o σ1 ρ ρ1 f) rfl (fun _ h => absurd h List.not_mem_nil) (fun q : Nat => s.heap.size ≤ q)) (cwV 3 hts gL_law_X8_bit rfl rfl rfl (by decide +kernel) ⟨Nat.le_of_ble_eq_true rfl, Nat.le_of_ble_eq_true rfl⟩) (va_recv hK hP (ci := 6) (q0 := 16) rfl rfl) hP hK hD hN hS rfl hl.1 rfl (Nat.le_of_ble_eq_true rfl) dL_law_474 ⟨by show cells + 0 ≤ 1053; omega, by show slots + 0 ≤ 14505; omega⟩ (fun H locs hP hD hS => ?_)
    refine lv_aload_n hx hb dL_law_477 rfl (lv_at hl 3 rfl) ?_
    refine ig_Vi (As := []) (rest := []) ⟨hx, hb, hml, hown, hts⟩ (fr_i (isT := [0, 1]) (fun A => c_X8_thrown l D cI cZ g A  ρ1 (mk_code ρ1) rfl) (lk_emM cI cZ cJ a g o σ1 ρ1 ρ1 f) rfl (fun _ h => absurd h List.not_mem_nil) (fun q : Nat => s.heap.size ≤ q)) (cwV 0 hts gL_law_X8_thrown rfl rfl rfl (by decide +kernel) ⟨Nat.le_of_ble_eq_true rfl, Nat.le_of_ble_eq_true rfl⟩) (va_recv hK hP (ci := 6) (q0 := 16) rfl rfl) hP hK hD hN hS rfl hl.1 rfl (Nat.le_of_ble_eq_true rfl) dL_law_478 ⟨by show cells + 0 ≤ 1053; omega, by show slots + 0 ≤ 14505; omega⟩ (fun H locs hP hD hS => ?_)
    refine lv_iload hx hb dL_law_481 (lv_at hl 0 rfl) ?_
    refine lv_icmp_eq (tgt := 488) hx hb dL_law_483 (by decide) (fun _ => ?_) (fun c9 => absurd hC c9)
    refine lv_goto (tgt := 968) hx hb dL_law_488 (by decide) ?_
    refine W.widen (k := cells + 1) (n := slots + 6) (by omega) (by omega) ?_
    exact KK _ _ _ _ hP hD hS (lv_sub hl [1, 2, 3, 4, 5] rfl)
set_option maxHeartbeats 4000000 in
set_option maxRecDepth 100000 in
theorem lc_bit_t {p : Program} {l : Launch} {e : Env} {s : State} {m : MethodId} {below : List Frame} {meth : Method} {c : Code} {D : va_G} {cI cZ cJ : ClassId} {a g : Nat → Nat} {o bs L : Nat} {xs : Nat → Int32} (CX : lk_Cx p l s m meth c D cI cZ cJ bs L xs) (x4 : Int32) (hin : ∀ j : Int32, j = 0 ∨ j = 1 ∨ j = 2 ∨ j = 3 ∨ j = 4 ∨ j = 5 → vp_in (x4 + j) L) (cells slots : Nat) (hc1 : cells + 1 ≤ 1053) (hc2 : slots + 6 ≤ 14505) (σ : ck_S) (ρ : mk_S) (f : Nat → Int64) (ρ1 : mk_S) (hA : tX7_bit (lk_v xs x4 1) (lk_v xs x4 2) (lk_b (lk_v xs x4 3)) σ = some ()) (hB : fX8_bit (lk_v xs x4 1) (lk_v xs x4 2) (lk_b (lk_v xs x4 3)) ρ = some ρ1) (hC : mk_code ρ1 = 1) (H : Heap) (locs : List Loc) (ls : Array Slot) (hP : va_P D vwCl ((lk_W cI cZ cJ a g o) (σ, ρ, f)) H) (hD : va_D (fun q : Nat => s.heap.size ≤ q) ((lk_W cI cZ cJ a g o) (σ, ρ, f))) (hS : va_S (fun q : Nat => s.heap.size ≤ q) s.heap H locs) (hl : lv_has ls 7 [(0, .ref bs), (1, .ref (a 0)), (2, .ref (g 0)), (3, .ref o), (4, .int x4)])
    (KK : ∀ (f : Nat → Int64) (H : Heap) (locs : List Loc) (ls : Array Slot), va_P D vwCl ((lk_W cI cZ cJ a g o) (σ, ρ1, f)) H → va_D (fun q : Nat => s.heap.size ≤ q) ((lk_W cI cZ cJ a g o) (σ, ρ1, f)) → va_S (fun q : Nat => s.heap.size ≤ q) s.heap H locs → lv_has ls 7 [(0, .ref bs), (1, .ref (a 0)), (2, .ref (g 0)), (3, .ref o), (4, .int x4)] → W p l e room_1 s m #[Value.ref bs] below meth c H locs (cells + 1) (slots + 6) (lw_Z below #[Value.ref bs] s) (F0 m 968 ls [])) :
    W p l e room_1 s m #[Value.ref bs] below meth c H locs cells slots (lw_Z below #[Value.ref bs] s) (F0 m 415 ls []) := by
  obtain ⟨hx, hb, hr, hml, hown, hts, hSc, hbl, hlocks, hl0, hK, hN, hXk⟩ := CX
  have hbA : ¬ (fun q : Nat => s.heap.size ≤ q) bs := Nat.not_le.mpr hbl
  refine lv_aload_n hx hb dL_law_415 rfl (lv_at hl 1 rfl) ?_
  refine lv_aload_n hx hb dL_law_416 rfl (lv_at hl 0 rfl) ?_
  refine lv_iload hx hb dL_law_417 (lv_at hl 4 rfl) ?_
  refine lv_iconst (v := 1) hx hb dL_law_419 (by decide) ?_
  refine lv_iadd hx hb dL_law_420 ?_
  refine va_sld hx hb hSc hbl hbA hS (hin 1 (by decide)) dL_law_421 ?_
  refine lv_aload_n hx hb dL_law_422 rfl (lv_at hl 0 rfl) ?_
  refine lv_iload hx hb dL_law_423 (lv_at hl 4 rfl) ?_
  refine lv_iconst (v := 2) hx hb dL_law_425 (by decide) ?_
  refine lv_iadd hx hb dL_law_426 ?_
  refine va_sld hx hb hSc hbl hbA hS (hin 2 (by decide)) dL_law_427 ?_
  refine lv_aload_n hx hb dL_law_428 rfl (lv_at hl 0 rfl) ?_
  refine lv_iload hx hb dL_law_429 (lv_at hl 4 rfl) ?_
  refine lv_iconst (v := 3) hx hb dL_law_431 (by decide) ?_
  refine lv_iadd hx hb dL_law_432 ?_
  refine va_sld hx hb hSc hbl hbA hS (hin 3 (by decide)) dL_law_433 ?_
  refine lv_if_eq (tgt := 441) hx hb dL_law_434 (by decide) (fun c7 => ?_) (fun c7 => ?_)
  · have e7 : lk_b (lk_v xs x4 3) = 0 := if_pos c7
    rw [e7] at hA hB
    refine lv_iconst (v := 0) hx hb dL_law_441 (by decide) ?_
    refine ig_Wi (As := [.ref (a 0), .int (lk_v xs x4 1), .int (lk_v xs x4 2), .int 0]) (rest := []) (hh := [(0, 7, 10, 13)]) ⟨hx, hb, hml, hown, hts⟩ (t_L_bit l hl0 D cI cZ cJ a g o (fun q : Nat => s.heap.size ≤ q) (lk_v xs x4 1) (lk_v xs x4 2) 0 σ ρ f hA) (vx_cwSW 4 hts gL_law_L_bit rfl rfl rfl (by decide +kernel) ⟨Nat.le_of_ble_eq_true rfl, Nat.le_of_ble_eq_true rfl⟩) xk_blind (xk_pre hP hK hD hN hXk hS) hS rfl hl.1 rfl (Nat.le_of_ble_eq_true rfl) dL_law_442 ⟨by show cells + 1 ≤ 1053; omega, by show slots + 6 ≤ 14505; omega⟩ (fun H locs hP hD hS => ?_)
    refine lv_istore (lv' := [(5, .int 1), (0, .ref bs), (1, .ref (a 0)), (2, .ref (g 0)), (3, .ref o), (4, .int x4)]) hx hb dL_law_445 hl (by decide) rfl (fun ls hl => ?_)
    refine lv_aload_n hx hb dL_law_447 rfl (lv_at hl 3 rfl) ?_
    refine lv_aload_n hx hb dL_law_448 rfl (lv_at hl 1 rfl) ?_
    refine lv_iload hx hb dL_law_449 (lv_at hl 5 rfl) ?_
    refine lv_iconst (v := 1) hx hb dL_law_451 (by decide) ?_
    refine lv_iadd hx hb dL_law_452 ?_
    refine va_sld hx hb hSc hbl hbA hS (hin 1 (by decide)) dL_law_453 ?_
    refine lv_aload_n hx hb dL_law_454 rfl (lv_at hl 1 rfl) ?_
    refine lv_iload hx hb dL_law_455 (lv_at hl 5 rfl) ?_
    refine lv_iconst (v := 2) hx hb dL_law_457 (by decide) ?_
    refine lv_iadd hx hb dL_law_458 ?_
    refine va_sld hx hb hSc hbl hbA hS (hin 2 (by decide)) dL_law_459 ?_
    refine lv_aload_n hx hb dL_law_460 rfl (lv_at hl 1 rfl) ?_
    refine lv_iload hx hb dL_law_461 (lv_at hl 5 rfl) ?_
    refine lv_iconst (v := 3) hx hb dL_law_463 (by decide) ?_
    refine lv_iadd hx hb dL_law_464 ?_
    refine va_sld hx hb hSc hbl hbA hS (hin 3 (by decide)) dL_law_465 ?_
    refine lv_if_eq (tgt := 473) hx hb dL_law_466 (by decide) (fun _ => ?_) (fun c9 => absurd c7 c9)
    refine lv_iconst (v := 0) hx hb dL_law_473 (by decide) ?_
    refine ig_Vv (As := [.int (lk_v xs x4 1), .int (lk_v xs x4 2), .int 0]) (rest := []) ⟨hx, hb, hml, hown, hts⟩ (fr_v (isT := [0, 1]) (fun A => c_X8_bit l D cI cZ g A (lk_v xs x4 1) (lk_v xs x4 2) 0 ρ ρ1 hB) (lk_emM cI cZ cJ a g o σ ρ ρ1 f) rfl (fun _ h => absurd h List.not_mem_nil) (fun q : Nat => s.heap.size ≤ q)) (cwV 3 hts gL_law_X8_bit rfl rfl rfl (by decide +kernel) ⟨Nat.le_of_ble_eq_true rfl, Nat.le_of_ble_eq_true rfl⟩) (va_recv hK hP (ci := 6) (q0 := 16) rfl rfl) hP hK hD hN hS rfl hl.1 rfl (Nat.le_of_ble_eq_true rfl) dL_law_474 ⟨by show (cells + 1) + 0 ≤ 1053; omega, by show (slots + 6) + 0 ≤ 14505; omega⟩ (fun H locs hP hD hS => ?_)
    refine lv_aload_n hx hb dL_law_477 rfl (lv_at hl 3 rfl) ?_
    refine ig_Vi (As := []) (rest := []) ⟨hx, hb, hml, hown, hts⟩ (fr_i (isT := [0, 1]) (fun A => c_X8_thrown l D cI cZ g A  ρ1 (mk_code ρ1) rfl) (lk_emM cI cZ cJ a g o σ ρ1 ρ1 f) rfl (fun _ h => absurd h List.not_mem_nil) (fun q : Nat => s.heap.size ≤ q)) (cwV 0 hts gL_law_X8_thrown rfl rfl rfl (by decide +kernel) ⟨Nat.le_of_ble_eq_true rfl, Nat.le_of_ble_eq_true rfl⟩) (va_recv hK hP (ci := 6) (q0 := 16) rfl rfl) hP hK hD hN hS rfl hl.1 rfl (Nat.le_of_ble_eq_true rfl) dL_law_478 ⟨by show (cells + 1) + 0 ≤ 1053; omega, by show (slots + 6) + 0 ≤ 14505; omega⟩ (fun H locs hP hD hS => ?_)
    refine lv_iload hx hb dL_law_481 (lv_at hl 0 rfl) ?_
    refine lv_icmp_eq (tgt := 488) hx hb dL_law_483 (by decide) (fun _ => ?_) (fun c9 => absurd hC c9)
    refine lv_goto (tgt := 968) hx hb dL_law_488 (by decide) ?_
    refine W.widen (k := cells + 1) (n := slots + 6) (by omega) (by omega) ?_
    exact KK _ _ _ _ hP hD hS (lv_sub hl [1, 2, 3, 4, 5] rfl)
  · have e7 : lk_b (lk_v xs x4 3) = 1 := if_neg c7
    rw [e7] at hA hB
    refine lv_iconst (v := 1) hx hb dL_law_437 (by decide) ?_
    refine lv_goto (tgt := 442) hx hb dL_law_438 (by decide) ?_
    refine ig_Wi (As := [.ref (a 0), .int (lk_v xs x4 1), .int (lk_v xs x4 2), .int 1]) (rest := []) (hh := [(0, 7, 10, 13)]) ⟨hx, hb, hml, hown, hts⟩ (t_L_bit l hl0 D cI cZ cJ a g o (fun q : Nat => s.heap.size ≤ q) (lk_v xs x4 1) (lk_v xs x4 2) 1 σ ρ f hA) (vx_cwSW 4 hts gL_law_L_bit rfl rfl rfl (by decide +kernel) ⟨Nat.le_of_ble_eq_true rfl, Nat.le_of_ble_eq_true rfl⟩) xk_blind (xk_pre hP hK hD hN hXk hS) hS rfl hl.1 rfl (Nat.le_of_ble_eq_true rfl) dL_law_442 ⟨by show cells + 1 ≤ 1053; omega, by show slots + 6 ≤ 14505; omega⟩ (fun H locs hP hD hS => ?_)
    refine lv_istore (lv' := [(5, .int 1), (0, .ref bs), (1, .ref (a 0)), (2, .ref (g 0)), (3, .ref o), (4, .int x4)]) hx hb dL_law_445 hl (by decide) rfl (fun ls hl => ?_)
    refine lv_aload_n hx hb dL_law_447 rfl (lv_at hl 3 rfl) ?_
    refine lv_aload_n hx hb dL_law_448 rfl (lv_at hl 1 rfl) ?_
    refine lv_iload hx hb dL_law_449 (lv_at hl 5 rfl) ?_
    refine lv_iconst (v := 1) hx hb dL_law_451 (by decide) ?_
    refine lv_iadd hx hb dL_law_452 ?_
    refine va_sld hx hb hSc hbl hbA hS (hin 1 (by decide)) dL_law_453 ?_
    refine lv_aload_n hx hb dL_law_454 rfl (lv_at hl 1 rfl) ?_
    refine lv_iload hx hb dL_law_455 (lv_at hl 5 rfl) ?_
    refine lv_iconst (v := 2) hx hb dL_law_457 (by decide) ?_
    refine lv_iadd hx hb dL_law_458 ?_
    refine va_sld hx hb hSc hbl hbA hS (hin 2 (by decide)) dL_law_459 ?_
    refine lv_aload_n hx hb dL_law_460 rfl (lv_at hl 1 rfl) ?_
    refine lv_iload hx hb dL_law_461 (lv_at hl 5 rfl) ?_
    refine lv_iconst (v := 3) hx hb dL_law_463 (by decide) ?_
    refine lv_iadd hx hb dL_law_464 ?_
    refine va_sld hx hb hSc hbl hbA hS (hin 3 (by decide)) dL_law_465 ?_
    refine lv_if_eq (tgt := 473) hx hb dL_law_466 (by decide) (fun c9 => absurd c9 c7) (fun _ => ?_)
    refine lv_iconst (v := 1) hx hb dL_law_469 (by decide) ?_
    refine lv_goto (tgt := 474) hx hb dL_law_470 (by decide) ?_
    refine ig_Vv (As := [.int (lk_v xs x4 1), .int (lk_v xs x4 2), .int 1]) (rest := []) ⟨hx, hb, hml, hown, hts⟩ (fr_v (isT := [0, 1]) (fun A => c_X8_bit l D cI cZ g A (lk_v xs x4 1) (lk_v xs x4 2) 1 ρ ρ1 hB) (lk_emM cI cZ cJ a g o σ ρ ρ1 f) rfl (fun _ h => absurd h List.not_mem_nil) (fun q : Nat => s.heap.size ≤ q)) (cwV 3 hts gL_law_X8_bit rfl rfl rfl (by decide +kernel) ⟨Nat.le_of_ble_eq_true rfl, Nat.le_of_ble_eq_true rfl⟩) (va_recv hK hP (ci := 6) (q0 := 16) rfl rfl) hP hK hD hN hS rfl hl.1 rfl (Nat.le_of_ble_eq_true rfl) dL_law_474 ⟨by show (cells + 1) + 0 ≤ 1053; omega, by show (slots + 6) + 0 ≤ 14505; omega⟩ (fun H locs hP hD hS => ?_)
    refine lv_aload_n hx hb dL_law_477 rfl (lv_at hl 3 rfl) ?_
    refine ig_Vi (As := []) (rest := []) ⟨hx, hb, hml, hown, hts⟩ (fr_i (isT := [0, 1]) (fun A => c_X8_thrown l D cI cZ g A  ρ1 (mk_code ρ1) rfl) (lk_emM cI cZ cJ a g o σ ρ1 ρ1 f) rfl (fun _ h => absurd h List.not_mem_nil) (fun q : Nat => s.heap.size ≤ q)) (cwV 0 hts gL_law_X8_thrown rfl rfl rfl (by decide +kernel) ⟨Nat.le_of_ble_eq_true rfl, Nat.le_of_ble_eq_true rfl⟩) (va_recv hK hP (ci := 6) (q0 := 16) rfl rfl) hP hK hD hN hS rfl hl.1 rfl (Nat.le_of_ble_eq_true rfl) dL_law_478 ⟨by show (cells + 1) + 0 ≤ 1053; omega, by show (slots + 6) + 0 ≤ 14505; omega⟩ (fun H locs hP hD hS => ?_)
    refine lv_iload hx hb dL_law_481 (lv_at hl 0 rfl) ?_
    refine lv_icmp_eq (tgt := 488) hx hb dL_law_483 (by decide) (fun _ => ?_) (fun c9 => absurd hC c9)
    refine lv_goto (tgt := 968) hx hb dL_law_488 (by decide) ?_
    refine W.widen (k := cells + 1) (n := slots + 6) (by omega) (by omega) ?_
    exact KK _ _ _ _ hP hD hS (lv_sub hl [1, 2, 3, 4, 5] rfl)
set_option maxHeartbeats 4000000 in
set_option maxRecDepth 100000 in
theorem lc_tell {p : Program} {l : Launch} {e : Env} {s : State} {m : MethodId} {below : List Frame} {meth : Method} {c : Code} {D : va_G} {cI cZ cJ : ClassId} {a g : Nat → Nat} {o bs L : Nat} {xs : Nat → Int32} (CX : lk_Cx p l s m meth c D cI cZ cJ bs L xs) (x4 : Int32) (hin : ∀ j : Int32, j = 0 ∨ j = 1 ∨ j = 2 ∨ j = 3 ∨ j = 4 ∨ j = 5 → vp_in (x4 + j) L) (cells slots : Nat) (hc1 : cells + 1 ≤ 1053) (hc2 : slots + 6 ≤ 14505) (σ : ck_S) (ρ : mk_S) (f : Nat → Int64) (σ1 : ck_S) (ρ1 : mk_S) (hA : fX7_tell (lk_v xs x4 1) (lk_v xs x4 2) σ = some σ1) (hB : fX8_tell (lk_v xs x4 1) (lk_v xs x4 2) ρ = some ρ1) (hC : mk_code ρ1 = 0) (H : Heap) (locs : List Loc) (ls : Array Slot) (hP : va_P D vwCl ((lk_W cI cZ cJ a g o) (σ, ρ, f)) H) (hD : va_D (fun q : Nat => s.heap.size ≤ q) ((lk_W cI cZ cJ a g o) (σ, ρ, f))) (hS : va_S (fun q : Nat => s.heap.size ≤ q) s.heap H locs) (hl : lv_has ls 7 [(0, .ref bs), (1, .ref (a 0)), (2, .ref (g 0)), (3, .ref o), (4, .int x4)])
    (KK : ∀ (f : Nat → Int64) (H : Heap) (locs : List Loc) (ls : Array Slot), va_P D vwCl ((lk_W cI cZ cJ a g o) (σ1, ρ1, f)) H → va_D (fun q : Nat => s.heap.size ≤ q) ((lk_W cI cZ cJ a g o) (σ1, ρ1, f)) → va_S (fun q : Nat => s.heap.size ≤ q) s.heap H locs → lv_has ls 7 [(0, .ref bs), (1, .ref (a 0)), (2, .ref (g 0)), (3, .ref o), (4, .int x4)] → W p l e room_1 s m #[Value.ref bs] below meth c H locs (cells + 1) (slots + 6) (lw_Z below #[Value.ref bs] s) (F0 m 968 ls [])) :
    W p l e room_1 s m #[Value.ref bs] below meth c H locs cells slots (lw_Z below #[Value.ref bs] s) (F0 m 491 ls []) := by
  obtain ⟨hx, hb, hr, hml, hown, hts, hSc, hbl, hlocks, hl0, hK, hN, hXk⟩ := CX
  have hbA : ¬ (fun q : Nat => s.heap.size ≤ q) bs := Nat.not_le.mpr hbl
  refine lv_aload_n hx hb dL_law_491 rfl (lv_at hl 1 rfl) ?_
  refine lv_aload_n hx hb dL_law_492 rfl (lv_at hl 0 rfl) ?_
  refine lv_iload hx hb dL_law_493 (lv_at hl 4 rfl) ?_
  refine lv_iconst (v := 1) hx hb dL_law_495 (by decide) ?_
  refine lv_iadd hx hb dL_law_496 ?_
  refine va_sld hx hb hSc hbl hbA hS (hin 1 (by decide)) dL_law_497 ?_
  refine lv_aload_n hx hb dL_law_498 rfl (lv_at hl 0 rfl) ?_
  refine lv_iload hx hb dL_law_499 (lv_at hl 4 rfl) ?_
  refine lv_iconst (v := 2) hx hb dL_law_501 (by decide) ?_
  refine lv_iadd hx hb dL_law_502 ?_
  refine va_sld hx hb hSc hbl hbA hS (hin 2 (by decide)) dL_law_503 ?_
  refine ig_Wi (As := [.ref (a 0), .int (lk_v xs x4 1), .int (lk_v xs x4 2)]) (rest := []) (hh := [(0, 6, 9, 13)]) ⟨hx, hb, hml, hown, hts⟩ (c_L_tell l D cI cZ cJ a g o (fun q : Nat => s.heap.size ≤ q) (lk_v xs x4 1) (lk_v xs x4 2) σ σ1 ρ f hA) (vx_cwSW 3 hts gL_law_L_tell rfl rfl rfl (by decide +kernel) ⟨Nat.le_of_ble_eq_true rfl, Nat.le_of_ble_eq_true rfl⟩) ik_blind (ik_pre hP hK hD hN) hS rfl hl.1 rfl (Nat.le_of_ble_eq_true rfl) dL_law_504 ⟨by show cells + 0 ≤ 1053; omega, by show slots + 0 ≤ 14505; omega⟩ (fun H locs hP hD hS => ?_)
  refine lv_istore (lv' := [(5, .int 0), (0, .ref bs), (1, .ref (a 0)), (2, .ref (g 0)), (3, .ref o), (4, .int x4)]) hx hb dL_law_507 hl (by decide) rfl (fun ls hl => ?_)
  refine lv_aload_n hx hb dL_law_509 rfl (lv_at hl 3 rfl) ?_
  refine lv_aload_n hx hb dL_law_510 rfl (lv_at hl 1 rfl) ?_
  refine lv_iload hx hb dL_law_511 (lv_at hl 5 rfl) ?_
  refine lv_iconst (v := 1) hx hb dL_law_513 (by decide) ?_
  refine lv_iadd hx hb dL_law_514 ?_
  refine va_sld hx hb hSc hbl hbA hS (hin 1 (by decide)) dL_law_515 ?_
  refine lv_aload_n hx hb dL_law_516 rfl (lv_at hl 1 rfl) ?_
  refine lv_iload hx hb dL_law_517 (lv_at hl 5 rfl) ?_
  refine lv_iconst (v := 2) hx hb dL_law_519 (by decide) ?_
  refine lv_iadd hx hb dL_law_520 ?_
  refine va_sld hx hb hSc hbl hbA hS (hin 2 (by decide)) dL_law_521 ?_
  refine ig_Vv (As := [.int (lk_v xs x4 1), .int (lk_v xs x4 2)]) (rest := []) ⟨hx, hb, hml, hown, hts⟩ (fr_v (isT := [0, 1]) (fun A => c_X8_tell l D cI cZ g A (lk_v xs x4 1) (lk_v xs x4 2) ρ ρ1 hB) (lk_emM cI cZ cJ a g o σ1 ρ ρ1 f) rfl (fun _ h => absurd h List.not_mem_nil) (fun q : Nat => s.heap.size ≤ q)) (cwV 2 hts gL_law_X8_tell rfl rfl rfl (by decide +kernel) ⟨Nat.le_of_ble_eq_true rfl, Nat.le_of_ble_eq_true rfl⟩) (va_recv hK hP (ci := 6) (q0 := 16) rfl rfl) hP hK hD hN hS rfl hl.1 rfl (Nat.le_of_ble_eq_true rfl) dL_law_522 ⟨by show cells + 0 ≤ 1053; omega, by show slots + 0 ≤ 14505; omega⟩ (fun H locs hP hD hS => ?_)
  refine lv_aload_n hx hb dL_law_525 rfl (lv_at hl 3 rfl) ?_
  refine ig_Vi (As := []) (rest := []) ⟨hx, hb, hml, hown, hts⟩ (fr_i (isT := [0, 1]) (fun A => c_X8_thrown l D cI cZ g A  ρ1 (mk_code ρ1) rfl) (lk_emM cI cZ cJ a g o σ1 ρ1 ρ1 f) rfl (fun _ h => absurd h List.not_mem_nil) (fun q : Nat => s.heap.size ≤ q)) (cwV 0 hts gL_law_X8_thrown rfl rfl rfl (by decide +kernel) ⟨Nat.le_of_ble_eq_true rfl, Nat.le_of_ble_eq_true rfl⟩) (va_recv hK hP (ci := 6) (q0 := 16) rfl rfl) hP hK hD hN hS rfl hl.1 rfl (Nat.le_of_ble_eq_true rfl) dL_law_526 ⟨by show cells + 0 ≤ 1053; omega, by show slots + 0 ≤ 14505; omega⟩ (fun H locs hP hD hS => ?_)
  refine lv_iload hx hb dL_law_529 (lv_at hl 0 rfl) ?_
  refine lv_icmp_eq (tgt := 536) hx hb dL_law_531 (by decide) (fun _ => ?_) (fun c9 => absurd hC c9)
  refine lv_goto (tgt := 968) hx hb dL_law_536 (by decide) ?_
  refine W.widen (k := cells + 1) (n := slots + 6) (by omega) (by omega) ?_
  exact KK _ _ _ _ hP hD hS (lv_sub hl [1, 2, 3, 4, 5] rfl)
set_option maxHeartbeats 4000000 in
set_option maxRecDepth 100000 in
theorem lc_tell_t {p : Program} {l : Launch} {e : Env} {s : State} {m : MethodId} {below : List Frame} {meth : Method} {c : Code} {D : va_G} {cI cZ cJ : ClassId} {a g : Nat → Nat} {o bs L : Nat} {xs : Nat → Int32} (CX : lk_Cx p l s m meth c D cI cZ cJ bs L xs) (x4 : Int32) (hin : ∀ j : Int32, j = 0 ∨ j = 1 ∨ j = 2 ∨ j = 3 ∨ j = 4 ∨ j = 5 → vp_in (x4 + j) L) (cells slots : Nat) (hc1 : cells + 1 ≤ 1053) (hc2 : slots + 6 ≤ 14505) (σ : ck_S) (ρ : mk_S) (f : Nat → Int64) (ρ1 : mk_S) (hA : tX7_tell (lk_v xs x4 1) (lk_v xs x4 2) σ = some ()) (hB : fX8_tell (lk_v xs x4 1) (lk_v xs x4 2) ρ = some ρ1) (hC : mk_code ρ1 = 1) (H : Heap) (locs : List Loc) (ls : Array Slot) (hP : va_P D vwCl ((lk_W cI cZ cJ a g o) (σ, ρ, f)) H) (hD : va_D (fun q : Nat => s.heap.size ≤ q) ((lk_W cI cZ cJ a g o) (σ, ρ, f))) (hS : va_S (fun q : Nat => s.heap.size ≤ q) s.heap H locs) (hl : lv_has ls 7 [(0, .ref bs), (1, .ref (a 0)), (2, .ref (g 0)), (3, .ref o), (4, .int x4)])
    (KK : ∀ (f : Nat → Int64) (H : Heap) (locs : List Loc) (ls : Array Slot), va_P D vwCl ((lk_W cI cZ cJ a g o) (σ, ρ1, f)) H → va_D (fun q : Nat => s.heap.size ≤ q) ((lk_W cI cZ cJ a g o) (σ, ρ1, f)) → va_S (fun q : Nat => s.heap.size ≤ q) s.heap H locs → lv_has ls 7 [(0, .ref bs), (1, .ref (a 0)), (2, .ref (g 0)), (3, .ref o), (4, .int x4)] → W p l e room_1 s m #[Value.ref bs] below meth c H locs (cells + 1) (slots + 6) (lw_Z below #[Value.ref bs] s) (F0 m 968 ls [])) :
    W p l e room_1 s m #[Value.ref bs] below meth c H locs cells slots (lw_Z below #[Value.ref bs] s) (F0 m 491 ls []) := by
  obtain ⟨hx, hb, hr, hml, hown, hts, hSc, hbl, hlocks, hl0, hK, hN, hXk⟩ := CX
  have hbA : ¬ (fun q : Nat => s.heap.size ≤ q) bs := Nat.not_le.mpr hbl
  refine lv_aload_n hx hb dL_law_491 rfl (lv_at hl 1 rfl) ?_
  refine lv_aload_n hx hb dL_law_492 rfl (lv_at hl 0 rfl) ?_
  refine lv_iload hx hb dL_law_493 (lv_at hl 4 rfl) ?_
  refine lv_iconst (v := 1) hx hb dL_law_495 (by decide) ?_
  refine lv_iadd hx hb dL_law_496 ?_
  refine va_sld hx hb hSc hbl hbA hS (hin 1 (by decide)) dL_law_497 ?_
  refine lv_aload_n hx hb dL_law_498 rfl (lv_at hl 0 rfl) ?_
  refine lv_iload hx hb dL_law_499 (lv_at hl 4 rfl) ?_
  refine lv_iconst (v := 2) hx hb dL_law_501 (by decide) ?_
  refine lv_iadd hx hb dL_law_502 ?_
  refine va_sld hx hb hSc hbl hbA hS (hin 2 (by decide)) dL_law_503 ?_
  refine ig_Wi (As := [.ref (a 0), .int (lk_v xs x4 1), .int (lk_v xs x4 2)]) (rest := []) (hh := [(0, 6, 9, 13)]) ⟨hx, hb, hml, hown, hts⟩ (t_L_tell l hl0 D cI cZ cJ a g o (fun q : Nat => s.heap.size ≤ q) (lk_v xs x4 1) (lk_v xs x4 2) σ ρ f hA) (vx_cwSW 3 hts gL_law_L_tell rfl rfl rfl (by decide +kernel) ⟨Nat.le_of_ble_eq_true rfl, Nat.le_of_ble_eq_true rfl⟩) xk_blind (xk_pre hP hK hD hN hXk hS) hS rfl hl.1 rfl (Nat.le_of_ble_eq_true rfl) dL_law_504 ⟨by show cells + 1 ≤ 1053; omega, by show slots + 6 ≤ 14505; omega⟩ (fun H locs hP hD hS => ?_)
  refine lv_istore (lv' := [(5, .int 1), (0, .ref bs), (1, .ref (a 0)), (2, .ref (g 0)), (3, .ref o), (4, .int x4)]) hx hb dL_law_507 hl (by decide) rfl (fun ls hl => ?_)
  refine lv_aload_n hx hb dL_law_509 rfl (lv_at hl 3 rfl) ?_
  refine lv_aload_n hx hb dL_law_510 rfl (lv_at hl 1 rfl) ?_
  refine lv_iload hx hb dL_law_511 (lv_at hl 5 rfl) ?_
  refine lv_iconst (v := 1) hx hb dL_law_513 (by decide) ?_
  refine lv_iadd hx hb dL_law_514 ?_
  refine va_sld hx hb hSc hbl hbA hS (hin 1 (by decide)) dL_law_515 ?_
  refine lv_aload_n hx hb dL_law_516 rfl (lv_at hl 1 rfl) ?_
  refine lv_iload hx hb dL_law_517 (lv_at hl 5 rfl) ?_
  refine lv_iconst (v := 2) hx hb dL_law_519 (by decide) ?_
  refine lv_iadd hx hb dL_law_520 ?_
  refine va_sld hx hb hSc hbl hbA hS (hin 2 (by decide)) dL_law_521 ?_
  refine ig_Vv (As := [.int (lk_v xs x4 1), .int (lk_v xs x4 2)]) (rest := []) ⟨hx, hb, hml, hown, hts⟩ (fr_v (isT := [0, 1]) (fun A => c_X8_tell l D cI cZ g A (lk_v xs x4 1) (lk_v xs x4 2) ρ ρ1 hB) (lk_emM cI cZ cJ a g o σ ρ ρ1 f) rfl (fun _ h => absurd h List.not_mem_nil) (fun q : Nat => s.heap.size ≤ q)) (cwV 2 hts gL_law_X8_tell rfl rfl rfl (by decide +kernel) ⟨Nat.le_of_ble_eq_true rfl, Nat.le_of_ble_eq_true rfl⟩) (va_recv hK hP (ci := 6) (q0 := 16) rfl rfl) hP hK hD hN hS rfl hl.1 rfl (Nat.le_of_ble_eq_true rfl) dL_law_522 ⟨by show (cells + 1) + 0 ≤ 1053; omega, by show (slots + 6) + 0 ≤ 14505; omega⟩ (fun H locs hP hD hS => ?_)
  refine lv_aload_n hx hb dL_law_525 rfl (lv_at hl 3 rfl) ?_
  refine ig_Vi (As := []) (rest := []) ⟨hx, hb, hml, hown, hts⟩ (fr_i (isT := [0, 1]) (fun A => c_X8_thrown l D cI cZ g A  ρ1 (mk_code ρ1) rfl) (lk_emM cI cZ cJ a g o σ ρ1 ρ1 f) rfl (fun _ h => absurd h List.not_mem_nil) (fun q : Nat => s.heap.size ≤ q)) (cwV 0 hts gL_law_X8_thrown rfl rfl rfl (by decide +kernel) ⟨Nat.le_of_ble_eq_true rfl, Nat.le_of_ble_eq_true rfl⟩) (va_recv hK hP (ci := 6) (q0 := 16) rfl rfl) hP hK hD hN hS rfl hl.1 rfl (Nat.le_of_ble_eq_true rfl) dL_law_526 ⟨by show (cells + 1) + 0 ≤ 1053; omega, by show (slots + 6) + 0 ≤ 14505; omega⟩ (fun H locs hP hD hS => ?_)
  refine lv_iload hx hb dL_law_529 (lv_at hl 0 rfl) ?_
  refine lv_icmp_eq (tgt := 536) hx hb dL_law_531 (by decide) (fun _ => ?_) (fun c9 => absurd hC c9)
  refine lv_goto (tgt := 968) hx hb dL_law_536 (by decide) ?_
  refine W.widen (k := cells + 1) (n := slots + 6) (by omega) (by omega) ?_
  exact KK _ _ _ _ hP hD hS (lv_sub hl [1, 2, 3, 4, 5] rfl)
set_option maxHeartbeats 4000000 in
set_option maxRecDepth 100000 in
theorem lc_check {p : Program} {l : Launch} {e : Env} {s : State} {m : MethodId} {below : List Frame} {meth : Method} {c : Code} {D : va_G} {cI cZ cJ : ClassId} {a g : Nat → Nat} {o bs L : Nat} {xs : Nat → Int32} (CX : lk_Cx p l s m meth c D cI cZ cJ bs L xs) (x4 : Int32) (hin : ∀ j : Int32, j = 0 ∨ j = 1 ∨ j = 2 ∨ j = 3 ∨ j = 4 ∨ j = 5 → vp_in (x4 + j) L) (cells slots : Nat) (hc1 : cells + 1 ≤ 1053) (hc2 : slots + 6 ≤ 14505) (σ : ck_S) (ρ : mk_S) (f : Nat → Int64) (r : Int32) (σ1 : ck_S) (ρ1 : mk_S) (hA : fX7_check  σ = some (r, σ1)) (hB : fX8_check  ρ = some (r, ρ1)) (H : Heap) (locs : List Loc) (ls : Array Slot) (hP : va_P D vwCl ((lk_W cI cZ cJ a g o) (σ, ρ, f)) H) (hD : va_D (fun q : Nat => s.heap.size ≤ q) ((lk_W cI cZ cJ a g o) (σ, ρ, f))) (hS : va_S (fun q : Nat => s.heap.size ≤ q) s.heap H locs) (hl : lv_has ls 7 [(0, .ref bs), (1, .ref (a 0)), (2, .ref (g 0)), (3, .ref o), (4, .int x4)])
    (KK : ∀ (f : Nat → Int64) (H : Heap) (locs : List Loc) (ls : Array Slot), va_P D vwCl ((lk_W cI cZ cJ a g o) (σ1, ρ1, f)) H → va_D (fun q : Nat => s.heap.size ≤ q) ((lk_W cI cZ cJ a g o) (σ1, ρ1, f)) → va_S (fun q : Nat => s.heap.size ≤ q) s.heap H locs → lv_has ls 7 [(0, .ref bs), (1, .ref (a 0)), (2, .ref (g 0)), (3, .ref o), (4, .int x4)] → W p l e room_1 s m #[Value.ref bs] below meth c H locs (cells + 1) (slots + 6) (lw_Z below #[Value.ref bs] s) (F0 m 968 ls [])) :
    W p l e room_1 s m #[Value.ref bs] below meth c H locs cells slots (lw_Z below #[Value.ref bs] s) (F0 m 539 ls []) := by
  obtain ⟨hx, hb, hr, hml, hown, hts, hSc, hbl, hlocks, hl0, hK, hN, hXk⟩ := CX
  have hbA : ¬ (fun q : Nat => s.heap.size ≤ q) bs := Nat.not_le.mpr hbl
  refine lv_aload_n hx hb dL_law_539 rfl (lv_at hl 1 rfl) ?_
  refine ig_Vi (As := []) (rest := []) ⟨hx, hb, hml, hown, hts⟩ (fr_i (isT := [0, 1]) (fun A => c_X7_check l D cI cZ a A  σ r σ1 hA) (lk_em cI cZ cJ a g o σ σ1 ρ f) rfl (fun _ h => h) (fun q : Nat => s.heap.size ≤ q)) (cwV 0 hts gL_law_X7_check rfl rfl rfl (by decide +kernel) ⟨Nat.le_of_ble_eq_true rfl, Nat.le_of_ble_eq_true rfl⟩) (va_recv hK hP (ci := 5) (q0 := 0) rfl rfl) hP hK hD hN hS rfl hl.1 rfl (Nat.le_of_ble_eq_true rfl) dL_law_540 ⟨by show cells + 0 ≤ 1053; omega, by show slots + 0 ≤ 14505; omega⟩ (fun H locs hP hD hS => ?_)
  refine lv_aload_n hx hb dL_law_543 rfl (lv_at hl 2 rfl) ?_
  refine ig_Vi (As := []) (rest := [.int r]) ⟨hx, hb, hml, hown, hts⟩ (fr_i (isT := [0, 1]) (fun A => c_X8_check l D cI cZ g A  ρ r ρ1 hB) (lk_emM cI cZ cJ a g o σ1 ρ ρ1 f) rfl (fun _ h => absurd h List.not_mem_nil) (fun q : Nat => s.heap.size ≤ q)) (cwV 0 hts gL_law_X8_check rfl rfl rfl (by decide +kernel) ⟨Nat.le_of_ble_eq_true rfl, Nat.le_of_ble_eq_true rfl⟩) (va_recv hK hP (ci := 6) (q0 := 16) rfl rfl) hP hK hD hN hS rfl hl.1 rfl (Nat.le_of_ble_eq_true rfl) dL_law_544 ⟨by show cells + 0 ≤ 1053; omega, by show slots + 0 ≤ 14505; omega⟩ (fun H locs hP hD hS => ?_)
  refine lv_icmp_eq (tgt := 968) hx hb dL_law_547 (by decide) (fun _ => ?_) (fun c9 => absurd rfl c9)
  refine W.widen (k := cells + 1) (n := slots + 6) (by omega) (by omega) ?_
  exact KK _ _ _ _ hP hD hS (lv_sub hl [0, 1, 2, 3, 4] rfl)
set_option maxHeartbeats 4000000 in
set_option maxRecDepth 100000 in
theorem lc_about {p : Program} {l : Launch} {e : Env} {s : State} {m : MethodId} {below : List Frame} {meth : Method} {c : Code} {D : va_G} {cI cZ cJ : ClassId} {a g : Nat → Nat} {o bs L : Nat} {xs : Nat → Int32} (CX : lk_Cx p l s m meth c D cI cZ cJ bs L xs) (x4 : Int32) (hin : ∀ j : Int32, j = 0 ∨ j = 1 ∨ j = 2 ∨ j = 3 ∨ j = 4 ∨ j = 5 → vp_in (x4 + j) L) (cells slots : Nat) (hc1 : cells + 1 ≤ 1053) (hc2 : slots + 6 ≤ 14505) (σ : ck_S) (ρ : mk_S) (f : Nat → Int64) (r : Int32) (ρ1 : mk_S) (hA : fX7_about (lk_v xs x4 1) (lk_v xs x4 2) σ = some r) (hB : fX8_about (lk_v xs x4 1) (lk_v xs x4 2) ρ = some (r, ρ1)) (hC : mk_code ρ1 = 0) (H : Heap) (locs : List Loc) (ls : Array Slot) (hP : va_P D vwCl ((lk_W cI cZ cJ a g o) (σ, ρ, f)) H) (hD : va_D (fun q : Nat => s.heap.size ≤ q) ((lk_W cI cZ cJ a g o) (σ, ρ, f))) (hS : va_S (fun q : Nat => s.heap.size ≤ q) s.heap H locs) (hl : lv_has ls 7 [(0, .ref bs), (1, .ref (a 0)), (2, .ref (g 0)), (3, .ref o), (4, .int x4)])
    (KK : ∀ (f : Nat → Int64) (H : Heap) (locs : List Loc) (ls : Array Slot), va_P D vwCl ((lk_W cI cZ cJ a g o) (σ, ρ1, f)) H → va_D (fun q : Nat => s.heap.size ≤ q) ((lk_W cI cZ cJ a g o) (σ, ρ1, f)) → va_S (fun q : Nat => s.heap.size ≤ q) s.heap H locs → lv_has ls 7 [(0, .ref bs), (1, .ref (a 0)), (2, .ref (g 0)), (3, .ref o), (4, .int x4)] → W p l e room_1 s m #[Value.ref bs] below meth c H locs (cells + 1) (slots + 6) (lw_Z below #[Value.ref bs] s) (F0 m 968 ls [])) :
    W p l e room_1 s m #[Value.ref bs] below meth c H locs cells slots (lw_Z below #[Value.ref bs] s) (F0 m 552 ls []) := by
  obtain ⟨hx, hb, hr, hml, hown, hts, hSc, hbl, hlocks, hl0, hK, hN, hXk⟩ := CX
  have hbA : ¬ (fun q : Nat => s.heap.size ≤ q) bs := Nat.not_le.mpr hbl
  refine lv_aload_n hx hb dL_law_552 rfl (lv_at hl 1 rfl) ?_
  refine lv_aload_n hx hb dL_law_553 rfl (lv_at hl 0 rfl) ?_
  refine lv_iload hx hb dL_law_554 (lv_at hl 4 rfl) ?_
  refine lv_iconst (v := 1) hx hb dL_law_556 (by decide) ?_
  refine lv_iadd hx hb dL_law_557 ?_
  refine va_sld hx hb hSc hbl hbA hS (hin 1 (by decide)) dL_law_558 ?_
  refine lv_aload_n hx hb dL_law_559 rfl (lv_at hl 0 rfl) ?_
  refine lv_iload hx hb dL_law_560 (lv_at hl 4 rfl) ?_
  refine lv_iconst (v := 2) hx hb dL_law_562 (by decide) ?_
  refine lv_iadd hx hb dL_law_563 ?_
  refine va_sld hx hb hSc hbl hbA hS (hin 2 (by decide)) dL_law_564 ?_
  refine lv_aload_n hx hb dL_law_565 rfl (lv_at hl 3 rfl) ?_
  refine ig_Wi (As := [.ref (a 0), .int (lk_v xs x4 1), .int (lk_v xs x4 2), .ref o]) (rest := []) (hh := [(0, 10, 13, 13)]) ⟨hx, hb, hml, hown, hts⟩ (c_L_about l D cI cZ cJ a g o (fun q : Nat => s.heap.size ≤ q) (lk_v xs x4 1) (lk_v xs x4 2) σ r ρ f hA) (vx_cwSW 4 hts gL_law_L_about rfl rfl rfl (by decide +kernel) ⟨Nat.le_of_ble_eq_true rfl, Nat.le_of_ble_eq_true rfl⟩) ik_blind (ik_pre hP hK hD hN) hS rfl hl.1 rfl (Nat.le_of_ble_eq_true rfl) dL_law_566 ⟨by show cells + 0 ≤ 1053; omega, by show slots + 0 ≤ 14505; omega⟩ (fun H locs hP hD hS => ?_)
  refine lv_istore (lv' := [(5, .int 0), (0, .ref bs), (1, .ref (a 0)), (2, .ref (g 0)), (3, .ref o), (4, .int x4)]) hx hb dL_law_569 hl (by decide) rfl (fun ls hl => ?_)
  refine lv_aload_n hx hb dL_law_571 rfl (lv_at hl 3 rfl) ?_
  refine lv_aload_n hx hb dL_law_572 rfl (lv_at hl 1 rfl) ?_
  refine lv_iload hx hb dL_law_573 (lv_at hl 5 rfl) ?_
  refine lv_iconst (v := 1) hx hb dL_law_575 (by decide) ?_
  refine lv_iadd hx hb dL_law_576 ?_
  refine va_sld hx hb hSc hbl hbA hS (hin 1 (by decide)) dL_law_577 ?_
  refine lv_aload_n hx hb dL_law_578 rfl (lv_at hl 1 rfl) ?_
  refine lv_iload hx hb dL_law_579 (lv_at hl 5 rfl) ?_
  refine lv_iconst (v := 2) hx hb dL_law_581 (by decide) ?_
  refine lv_iadd hx hb dL_law_582 ?_
  refine va_sld hx hb hSc hbl hbA hS (hin 2 (by decide)) dL_law_583 ?_
  refine ig_Vi (As := [.int (lk_v xs x4 1), .int (lk_v xs x4 2)]) (rest := []) ⟨hx, hb, hml, hown, hts⟩ (fr_i (isT := [0, 1]) (fun A => c_X8_about l D cI cZ g A (lk_v xs x4 1) (lk_v xs x4 2) ρ r ρ1 hB) (lk_emM cI cZ cJ a g o σ ρ ρ1 (lk_out f r.toInt64)) rfl (fun _ h => absurd h List.not_mem_nil) (fun q : Nat => s.heap.size ≤ q)) (cwV 2 hts gL_law_X8_about rfl rfl rfl (by decide +kernel) ⟨Nat.le_of_ble_eq_true rfl, Nat.le_of_ble_eq_true rfl⟩) (va_recv hK hP (ci := 6) (q0 := 16) rfl rfl) hP hK hD hN hS rfl hl.1 rfl (Nat.le_of_ble_eq_true rfl) dL_law_584 ⟨by show cells + 0 ≤ 1053; omega, by show slots + 0 ≤ 14505; omega⟩ (fun H locs hP hD hS => ?_)
  refine lv_istore (lv' := [(6, .int r), (5, .int 0), (0, .ref bs), (1, .ref (a 0)), (2, .ref (g 0)), (3, .ref o), (4, .int x4)]) hx hb dL_law_587 hl (by decide) rfl (fun ls hl => ?_)
  refine lv_aload_n hx hb dL_law_589 rfl (lv_at hl 4 rfl) ?_
  refine ig_Vi (As := []) (rest := []) ⟨hx, hb, hml, hown, hts⟩ (fr_i (isT := [0, 1]) (fun A => c_X8_thrown l D cI cZ g A  ρ1 (mk_code ρ1) rfl) (lk_emM cI cZ cJ a g o σ ρ1 ρ1 (lk_out f r.toInt64)) rfl (fun _ h => absurd h List.not_mem_nil) (fun q : Nat => s.heap.size ≤ q)) (cwV 0 hts gL_law_X8_thrown rfl rfl rfl (by decide +kernel) ⟨Nat.le_of_ble_eq_true rfl, Nat.le_of_ble_eq_true rfl⟩) (va_recv hK hP (ci := 6) (q0 := 16) rfl rfl) hP hK hD hN hS rfl hl.1 rfl (Nat.le_of_ble_eq_true rfl) dL_law_590 ⟨by show cells + 0 ≤ 1053; omega, by show slots + 0 ≤ 14505; omega⟩ (fun H locs hP hD hS => ?_)
  refine lv_iload hx hb dL_law_593 (lv_at hl 1 rfl) ?_
  refine lv_icmp_eq (tgt := 600) hx hb dL_law_595 (by decide) (fun _ => ?_) (fun c9 => absurd hC c9)
  refine lv_iload hx hb dL_law_600 (lv_at hl 1 rfl) ?_
  refine lv_if_ne (tgt := 617) hx hb dL_law_602 (by decide) (fun c9 => absurd rfl c9) (fun _ => ?_)
  refine lv_aload_n hx hb dL_law_605 rfl (lv_at hl 5 rfl) ?_
  refine lv_iconst (v := 0) hx hb dL_law_606 (by decide) ?_
  refine va_lald hx hb hK hP 25 2 rfl rfl (show vp_in (0 : Int32) 1 by unfold vp_in; decide) dL_law_607 ?_
  refine lv_iload hx hb dL_law_608 (lv_at hl 0 rfl) ?_
  refine lv_i2l (v := r.toInt64) hx hb dL_law_610 rfl ?_
  refine W.lcmp hx hb dL_law_611 ?_
  refine lv_if_eq (tgt := 617) hx hb dL_law_612 (by decide) (fun c9 => ?_) (fun c9 => absurd (lk_same1 f r) c9)
  refine lv_goto (tgt := 968) hx hb dL_law_617 (by decide) ?_
  refine W.widen (k := cells + 1) (n := slots + 6) (by omega) (by omega) ?_
  exact KK _ _ _ _ hP hD hS (lv_sub hl [2, 3, 4, 5, 6] rfl)
set_option maxHeartbeats 4000000 in
set_option maxRecDepth 100000 in
theorem lc_about_t {p : Program} {l : Launch} {e : Env} {s : State} {m : MethodId} {below : List Frame} {meth : Method} {c : Code} {D : va_G} {cI cZ cJ : ClassId} {a g : Nat → Nat} {o bs L : Nat} {xs : Nat → Int32} (CX : lk_Cx p l s m meth c D cI cZ cJ bs L xs) (x4 : Int32) (hin : ∀ j : Int32, j = 0 ∨ j = 1 ∨ j = 2 ∨ j = 3 ∨ j = 4 ∨ j = 5 → vp_in (x4 + j) L) (cells slots : Nat) (hc1 : cells + 1 ≤ 1053) (hc2 : slots + 6 ≤ 14505) (σ : ck_S) (ρ : mk_S) (f : Nat → Int64) (r : Int32) (ρ1 : mk_S) (hA : tX7_about (lk_v xs x4 1) (lk_v xs x4 2) σ = some ()) (hB : fX8_about (lk_v xs x4 1) (lk_v xs x4 2) ρ = some (r, ρ1)) (hC : mk_code ρ1 = 1) (H : Heap) (locs : List Loc) (ls : Array Slot) (hP : va_P D vwCl ((lk_W cI cZ cJ a g o) (σ, ρ, f)) H) (hD : va_D (fun q : Nat => s.heap.size ≤ q) ((lk_W cI cZ cJ a g o) (σ, ρ, f))) (hS : va_S (fun q : Nat => s.heap.size ≤ q) s.heap H locs) (hl : lv_has ls 7 [(0, .ref bs), (1, .ref (a 0)), (2, .ref (g 0)), (3, .ref o), (4, .int x4)])
    (KK : ∀ (f : Nat → Int64) (H : Heap) (locs : List Loc) (ls : Array Slot), va_P D vwCl ((lk_W cI cZ cJ a g o) (σ, ρ1, f)) H → va_D (fun q : Nat => s.heap.size ≤ q) ((lk_W cI cZ cJ a g o) (σ, ρ1, f)) → va_S (fun q : Nat => s.heap.size ≤ q) s.heap H locs → lv_has ls 7 [(0, .ref bs), (1, .ref (a 0)), (2, .ref (g 0)), (3, .ref o), (4, .int x4)] → W p l e room_1 s m #[Value.ref bs] below meth c H locs (cells + 1) (slots + 6) (lw_Z below #[Value.ref bs] s) (F0 m 968 ls [])) :
    W p l e room_1 s m #[Value.ref bs] below meth c H locs cells slots (lw_Z below #[Value.ref bs] s) (F0 m 552 ls []) := by
  obtain ⟨hx, hb, hr, hml, hown, hts, hSc, hbl, hlocks, hl0, hK, hN, hXk⟩ := CX
  have hbA : ¬ (fun q : Nat => s.heap.size ≤ q) bs := Nat.not_le.mpr hbl
  refine lv_aload_n hx hb dL_law_552 rfl (lv_at hl 1 rfl) ?_
  refine lv_aload_n hx hb dL_law_553 rfl (lv_at hl 0 rfl) ?_
  refine lv_iload hx hb dL_law_554 (lv_at hl 4 rfl) ?_
  refine lv_iconst (v := 1) hx hb dL_law_556 (by decide) ?_
  refine lv_iadd hx hb dL_law_557 ?_
  refine va_sld hx hb hSc hbl hbA hS (hin 1 (by decide)) dL_law_558 ?_
  refine lv_aload_n hx hb dL_law_559 rfl (lv_at hl 0 rfl) ?_
  refine lv_iload hx hb dL_law_560 (lv_at hl 4 rfl) ?_
  refine lv_iconst (v := 2) hx hb dL_law_562 (by decide) ?_
  refine lv_iadd hx hb dL_law_563 ?_
  refine va_sld hx hb hSc hbl hbA hS (hin 2 (by decide)) dL_law_564 ?_
  refine lv_aload_n hx hb dL_law_565 rfl (lv_at hl 3 rfl) ?_
  refine ig_Wi (As := [.ref (a 0), .int (lk_v xs x4 1), .int (lk_v xs x4 2), .ref o]) (rest := []) (hh := [(0, 10, 13, 13)]) ⟨hx, hb, hml, hown, hts⟩ (t_L_about l hl0 D cI cZ cJ a g o (fun q : Nat => s.heap.size ≤ q) (lk_v xs x4 1) (lk_v xs x4 2) σ ρ f hA) (vx_cwSW 4 hts gL_law_L_about rfl rfl rfl (by decide +kernel) ⟨Nat.le_of_ble_eq_true rfl, Nat.le_of_ble_eq_true rfl⟩) xk_blind (xk_pre hP hK hD hN hXk hS) hS rfl hl.1 rfl (Nat.le_of_ble_eq_true rfl) dL_law_566 ⟨by show cells + 1 ≤ 1053; omega, by show slots + 6 ≤ 14505; omega⟩ (fun H locs hP hD hS => ?_)
  refine lv_istore (lv' := [(5, .int 1), (0, .ref bs), (1, .ref (a 0)), (2, .ref (g 0)), (3, .ref o), (4, .int x4)]) hx hb dL_law_569 hl (by decide) rfl (fun ls hl => ?_)
  refine lv_aload_n hx hb dL_law_571 rfl (lv_at hl 3 rfl) ?_
  refine lv_aload_n hx hb dL_law_572 rfl (lv_at hl 1 rfl) ?_
  refine lv_iload hx hb dL_law_573 (lv_at hl 5 rfl) ?_
  refine lv_iconst (v := 1) hx hb dL_law_575 (by decide) ?_
  refine lv_iadd hx hb dL_law_576 ?_
  refine va_sld hx hb hSc hbl hbA hS (hin 1 (by decide)) dL_law_577 ?_
  refine lv_aload_n hx hb dL_law_578 rfl (lv_at hl 1 rfl) ?_
  refine lv_iload hx hb dL_law_579 (lv_at hl 5 rfl) ?_
  refine lv_iconst (v := 2) hx hb dL_law_581 (by decide) ?_
  refine lv_iadd hx hb dL_law_582 ?_
  refine va_sld hx hb hSc hbl hbA hS (hin 2 (by decide)) dL_law_583 ?_
  refine ig_Vi (As := [.int (lk_v xs x4 1), .int (lk_v xs x4 2)]) (rest := []) ⟨hx, hb, hml, hown, hts⟩ (fr_i (isT := [0, 1]) (fun A => c_X8_about l D cI cZ g A (lk_v xs x4 1) (lk_v xs x4 2) ρ r ρ1 hB) (lk_emM cI cZ cJ a g o σ ρ ρ1 f) rfl (fun _ h => absurd h List.not_mem_nil) (fun q : Nat => s.heap.size ≤ q)) (cwV 2 hts gL_law_X8_about rfl rfl rfl (by decide +kernel) ⟨Nat.le_of_ble_eq_true rfl, Nat.le_of_ble_eq_true rfl⟩) (va_recv hK hP (ci := 6) (q0 := 16) rfl rfl) hP hK hD hN hS rfl hl.1 rfl (Nat.le_of_ble_eq_true rfl) dL_law_584 ⟨by show (cells + 1) + 0 ≤ 1053; omega, by show (slots + 6) + 0 ≤ 14505; omega⟩ (fun H locs hP hD hS => ?_)
  refine lv_istore (lv' := [(6, .int r), (5, .int 1), (0, .ref bs), (1, .ref (a 0)), (2, .ref (g 0)), (3, .ref o), (4, .int x4)]) hx hb dL_law_587 hl (by decide) rfl (fun ls hl => ?_)
  refine lv_aload_n hx hb dL_law_589 rfl (lv_at hl 4 rfl) ?_
  refine ig_Vi (As := []) (rest := []) ⟨hx, hb, hml, hown, hts⟩ (fr_i (isT := [0, 1]) (fun A => c_X8_thrown l D cI cZ g A  ρ1 (mk_code ρ1) rfl) (lk_emM cI cZ cJ a g o σ ρ1 ρ1 f) rfl (fun _ h => absurd h List.not_mem_nil) (fun q : Nat => s.heap.size ≤ q)) (cwV 0 hts gL_law_X8_thrown rfl rfl rfl (by decide +kernel) ⟨Nat.le_of_ble_eq_true rfl, Nat.le_of_ble_eq_true rfl⟩) (va_recv hK hP (ci := 6) (q0 := 16) rfl rfl) hP hK hD hN hS rfl hl.1 rfl (Nat.le_of_ble_eq_true rfl) dL_law_590 ⟨by show (cells + 1) + 0 ≤ 1053; omega, by show (slots + 6) + 0 ≤ 14505; omega⟩ (fun H locs hP hD hS => ?_)
  refine lv_iload hx hb dL_law_593 (lv_at hl 1 rfl) ?_
  refine lv_icmp_eq (tgt := 600) hx hb dL_law_595 (by decide) (fun _ => ?_) (fun c9 => absurd hC c9)
  refine lv_iload hx hb dL_law_600 (lv_at hl 1 rfl) ?_
  refine lv_if_ne (tgt := 617) hx hb dL_law_602 (by decide) (fun _ => ?_) (fun c9 => absurd c9 (by decide))
  refine lv_goto (tgt := 968) hx hb dL_law_617 (by decide) ?_
  refine W.widen (k := cells + 1) (n := slots + 6) (by omega) (by omega) ?_
  exact KK _ _ _ _ hP hD hS (lv_sub hl [2, 3, 4, 5, 6] rfl)
set_option maxHeartbeats 4000000 in
set_option maxRecDepth 100000 in
theorem lc_runOf {p : Program} {l : Launch} {e : Env} {s : State} {m : MethodId} {below : List Frame} {meth : Method} {c : Code} {D : va_G} {cI cZ cJ : ClassId} {a g : Nat → Nat} {o bs L : Nat} {xs : Nat → Int32} (CX : lk_Cx p l s m meth c D cI cZ cJ bs L xs) (x4 : Int32) (hin : ∀ j : Int32, j = 0 ∨ j = 1 ∨ j = 2 ∨ j = 3 ∨ j = 4 ∨ j = 5 → vp_in (x4 + j) L) (cells slots : Nat) (hc1 : cells + 1 ≤ 1053) (hc2 : slots + 6 ≤ 14505) (σ : ck_S) (ρ : mk_S) (f : Nat → Int64) (r : Int32) (ρ1 : mk_S) (hA : fX7_runOf (lk_v xs x4 1) (lk_v xs x4 2) (lk_v xs x4 3) σ = some r) (hB : fX8_runOf (lk_v xs x4 1) (lk_v xs x4 2) (lk_v xs x4 3) ρ = some (r, ρ1)) (hC : mk_code ρ1 = 0) (H : Heap) (locs : List Loc) (ls : Array Slot) (hP : va_P D vwCl ((lk_W cI cZ cJ a g o) (σ, ρ, f)) H) (hD : va_D (fun q : Nat => s.heap.size ≤ q) ((lk_W cI cZ cJ a g o) (σ, ρ, f))) (hS : va_S (fun q : Nat => s.heap.size ≤ q) s.heap H locs) (hl : lv_has ls 7 [(0, .ref bs), (1, .ref (a 0)), (2, .ref (g 0)), (3, .ref o), (4, .int x4)])
    (KK : ∀ (f : Nat → Int64) (H : Heap) (locs : List Loc) (ls : Array Slot), va_P D vwCl ((lk_W cI cZ cJ a g o) (σ, ρ1, f)) H → va_D (fun q : Nat => s.heap.size ≤ q) ((lk_W cI cZ cJ a g o) (σ, ρ1, f)) → va_S (fun q : Nat => s.heap.size ≤ q) s.heap H locs → lv_has ls 7 [(0, .ref bs), (1, .ref (a 0)), (2, .ref (g 0)), (3, .ref o), (4, .int x4)] → W p l e room_1 s m #[Value.ref bs] below meth c H locs (cells + 1) (slots + 6) (lw_Z below #[Value.ref bs] s) (F0 m 968 ls [])) :
    W p l e room_1 s m #[Value.ref bs] below meth c H locs cells slots (lw_Z below #[Value.ref bs] s) (F0 m 620 ls []) := by
  obtain ⟨hx, hb, hr, hml, hown, hts, hSc, hbl, hlocks, hl0, hK, hN, hXk⟩ := CX
  have hbA : ¬ (fun q : Nat => s.heap.size ≤ q) bs := Nat.not_le.mpr hbl
  refine lv_aload_n hx hb dL_law_620 rfl (lv_at hl 1 rfl) ?_
  refine lv_aload_n hx hb dL_law_621 rfl (lv_at hl 0 rfl) ?_
  refine lv_iload hx hb dL_law_622 (lv_at hl 4 rfl) ?_
  refine lv_iconst (v := 1) hx hb dL_law_624 (by decide) ?_
  refine lv_iadd hx hb dL_law_625 ?_
  refine va_sld hx hb hSc hbl hbA hS (hin 1 (by decide)) dL_law_626 ?_
  refine lv_aload_n hx hb dL_law_627 rfl (lv_at hl 0 rfl) ?_
  refine lv_iload hx hb dL_law_628 (lv_at hl 4 rfl) ?_
  refine lv_iconst (v := 2) hx hb dL_law_630 (by decide) ?_
  refine lv_iadd hx hb dL_law_631 ?_
  refine va_sld hx hb hSc hbl hbA hS (hin 2 (by decide)) dL_law_632 ?_
  refine lv_aload_n hx hb dL_law_633 rfl (lv_at hl 0 rfl) ?_
  refine lv_iload hx hb dL_law_634 (lv_at hl 4 rfl) ?_
  refine lv_iconst (v := 3) hx hb dL_law_636 (by decide) ?_
  refine lv_iadd hx hb dL_law_637 ?_
  refine va_sld hx hb hSc hbl hbA hS (hin 3 (by decide)) dL_law_638 ?_
  refine lv_aload_n hx hb dL_law_639 rfl (lv_at hl 3 rfl) ?_
  refine ig_Wi (As := [.ref (a 0), .int (lk_v xs x4 1), .int (lk_v xs x4 2), .int (lk_v xs x4 3), .ref o]) (rest := []) (hh := [(0, 12, 15, 13)]) ⟨hx, hb, hml, hown, hts⟩ (c_L_runOf l D cI cZ cJ a g o (fun q : Nat => s.heap.size ≤ q) (lk_v xs x4 1) (lk_v xs x4 2) (lk_v xs x4 3) σ r ρ f hA) (vx_cwSW 5 hts gL_law_L_runOf rfl rfl rfl (by decide +kernel) ⟨Nat.le_of_ble_eq_true rfl, Nat.le_of_ble_eq_true rfl⟩) ik_blind (ik_pre hP hK hD hN) hS rfl hl.1 rfl (Nat.le_of_ble_eq_true rfl) dL_law_640 ⟨by show cells + 0 ≤ 1053; omega, by show slots + 0 ≤ 14505; omega⟩ (fun H locs hP hD hS => ?_)
  refine lv_istore (lv' := [(5, .int 0), (0, .ref bs), (1, .ref (a 0)), (2, .ref (g 0)), (3, .ref o), (4, .int x4)]) hx hb dL_law_643 hl (by decide) rfl (fun ls hl => ?_)
  refine lv_aload_n hx hb dL_law_645 rfl (lv_at hl 3 rfl) ?_
  refine lv_aload_n hx hb dL_law_646 rfl (lv_at hl 1 rfl) ?_
  refine lv_iload hx hb dL_law_647 (lv_at hl 5 rfl) ?_
  refine lv_iconst (v := 1) hx hb dL_law_649 (by decide) ?_
  refine lv_iadd hx hb dL_law_650 ?_
  refine va_sld hx hb hSc hbl hbA hS (hin 1 (by decide)) dL_law_651 ?_
  refine lv_aload_n hx hb dL_law_652 rfl (lv_at hl 1 rfl) ?_
  refine lv_iload hx hb dL_law_653 (lv_at hl 5 rfl) ?_
  refine lv_iconst (v := 2) hx hb dL_law_655 (by decide) ?_
  refine lv_iadd hx hb dL_law_656 ?_
  refine va_sld hx hb hSc hbl hbA hS (hin 2 (by decide)) dL_law_657 ?_
  refine lv_aload_n hx hb dL_law_658 rfl (lv_at hl 1 rfl) ?_
  refine lv_iload hx hb dL_law_659 (lv_at hl 5 rfl) ?_
  refine lv_iconst (v := 3) hx hb dL_law_661 (by decide) ?_
  refine lv_iadd hx hb dL_law_662 ?_
  refine va_sld hx hb hSc hbl hbA hS (hin 3 (by decide)) dL_law_663 ?_
  refine ig_Vi (As := [.int (lk_v xs x4 1), .int (lk_v xs x4 2), .int (lk_v xs x4 3)]) (rest := []) ⟨hx, hb, hml, hown, hts⟩ (fr_i (isT := [0, 1]) (fun A => c_X8_runOf l D cI cZ g A (lk_v xs x4 1) (lk_v xs x4 2) (lk_v xs x4 3) ρ r ρ1 hB) (lk_emM cI cZ cJ a g o σ ρ ρ1 (lk_out f r.toInt64)) rfl (fun _ h => absurd h List.not_mem_nil) (fun q : Nat => s.heap.size ≤ q)) (cwV 3 hts gL_law_X8_runOf rfl rfl rfl (by decide +kernel) ⟨Nat.le_of_ble_eq_true rfl, Nat.le_of_ble_eq_true rfl⟩) (va_recv hK hP (ci := 6) (q0 := 16) rfl rfl) hP hK hD hN hS rfl hl.1 rfl (Nat.le_of_ble_eq_true rfl) dL_law_664 ⟨by show cells + 0 ≤ 1053; omega, by show slots + 0 ≤ 14505; omega⟩ (fun H locs hP hD hS => ?_)
  refine lv_istore (lv' := [(6, .int r), (5, .int 0), (0, .ref bs), (1, .ref (a 0)), (2, .ref (g 0)), (3, .ref o), (4, .int x4)]) hx hb dL_law_667 hl (by decide) rfl (fun ls hl => ?_)
  refine lv_aload_n hx hb dL_law_669 rfl (lv_at hl 4 rfl) ?_
  refine ig_Vi (As := []) (rest := []) ⟨hx, hb, hml, hown, hts⟩ (fr_i (isT := [0, 1]) (fun A => c_X8_thrown l D cI cZ g A  ρ1 (mk_code ρ1) rfl) (lk_emM cI cZ cJ a g o σ ρ1 ρ1 (lk_out f r.toInt64)) rfl (fun _ h => absurd h List.not_mem_nil) (fun q : Nat => s.heap.size ≤ q)) (cwV 0 hts gL_law_X8_thrown rfl rfl rfl (by decide +kernel) ⟨Nat.le_of_ble_eq_true rfl, Nat.le_of_ble_eq_true rfl⟩) (va_recv hK hP (ci := 6) (q0 := 16) rfl rfl) hP hK hD hN hS rfl hl.1 rfl (Nat.le_of_ble_eq_true rfl) dL_law_670 ⟨by show cells + 0 ≤ 1053; omega, by show slots + 0 ≤ 14505; omega⟩ (fun H locs hP hD hS => ?_)
  refine lv_iload hx hb dL_law_673 (lv_at hl 1 rfl) ?_
  refine lv_icmp_eq (tgt := 680) hx hb dL_law_675 (by decide) (fun _ => ?_) (fun c9 => absurd hC c9)
  refine lv_iload hx hb dL_law_680 (lv_at hl 1 rfl) ?_
  refine lv_if_ne (tgt := 697) hx hb dL_law_682 (by decide) (fun c9 => absurd rfl c9) (fun _ => ?_)
  refine lv_aload_n hx hb dL_law_685 rfl (lv_at hl 5 rfl) ?_
  refine lv_iconst (v := 0) hx hb dL_law_686 (by decide) ?_
  refine va_lald hx hb hK hP 25 2 rfl rfl (show vp_in (0 : Int32) 1 by unfold vp_in; decide) dL_law_687 ?_
  refine lv_iload hx hb dL_law_688 (lv_at hl 0 rfl) ?_
  refine lv_i2l (v := r.toInt64) hx hb dL_law_690 rfl ?_
  refine W.lcmp hx hb dL_law_691 ?_
  refine lv_if_eq (tgt := 697) hx hb dL_law_692 (by decide) (fun c9 => ?_) (fun c9 => absurd (lk_same1 f r) c9)
  refine lv_goto (tgt := 968) hx hb dL_law_697 (by decide) ?_
  refine W.widen (k := cells + 1) (n := slots + 6) (by omega) (by omega) ?_
  exact KK _ _ _ _ hP hD hS (lv_sub hl [2, 3, 4, 5, 6] rfl)
set_option maxHeartbeats 4000000 in
set_option maxRecDepth 100000 in
theorem lc_runOf_t {p : Program} {l : Launch} {e : Env} {s : State} {m : MethodId} {below : List Frame} {meth : Method} {c : Code} {D : va_G} {cI cZ cJ : ClassId} {a g : Nat → Nat} {o bs L : Nat} {xs : Nat → Int32} (CX : lk_Cx p l s m meth c D cI cZ cJ bs L xs) (x4 : Int32) (hin : ∀ j : Int32, j = 0 ∨ j = 1 ∨ j = 2 ∨ j = 3 ∨ j = 4 ∨ j = 5 → vp_in (x4 + j) L) (cells slots : Nat) (hc1 : cells + 1 ≤ 1053) (hc2 : slots + 6 ≤ 14505) (σ : ck_S) (ρ : mk_S) (f : Nat → Int64) (r : Int32) (ρ1 : mk_S) (hA : tX7_runOf (lk_v xs x4 1) (lk_v xs x4 2) (lk_v xs x4 3) σ = some ()) (hB : fX8_runOf (lk_v xs x4 1) (lk_v xs x4 2) (lk_v xs x4 3) ρ = some (r, ρ1)) (hC : mk_code ρ1 = 1) (H : Heap) (locs : List Loc) (ls : Array Slot) (hP : va_P D vwCl ((lk_W cI cZ cJ a g o) (σ, ρ, f)) H) (hD : va_D (fun q : Nat => s.heap.size ≤ q) ((lk_W cI cZ cJ a g o) (σ, ρ, f))) (hS : va_S (fun q : Nat => s.heap.size ≤ q) s.heap H locs) (hl : lv_has ls 7 [(0, .ref bs), (1, .ref (a 0)), (2, .ref (g 0)), (3, .ref o), (4, .int x4)])
    (KK : ∀ (f : Nat → Int64) (H : Heap) (locs : List Loc) (ls : Array Slot), va_P D vwCl ((lk_W cI cZ cJ a g o) (σ, ρ1, f)) H → va_D (fun q : Nat => s.heap.size ≤ q) ((lk_W cI cZ cJ a g o) (σ, ρ1, f)) → va_S (fun q : Nat => s.heap.size ≤ q) s.heap H locs → lv_has ls 7 [(0, .ref bs), (1, .ref (a 0)), (2, .ref (g 0)), (3, .ref o), (4, .int x4)] → W p l e room_1 s m #[Value.ref bs] below meth c H locs (cells + 1) (slots + 6) (lw_Z below #[Value.ref bs] s) (F0 m 968 ls [])) :
    W p l e room_1 s m #[Value.ref bs] below meth c H locs cells slots (lw_Z below #[Value.ref bs] s) (F0 m 620 ls []) := by
  obtain ⟨hx, hb, hr, hml, hown, hts, hSc, hbl, hlocks, hl0, hK, hN, hXk⟩ := CX
  have hbA : ¬ (fun q : Nat => s.heap.size ≤ q) bs := Nat.not_le.mpr hbl
  refine lv_aload_n hx hb dL_law_620 rfl (lv_at hl 1 rfl) ?_
  refine lv_aload_n hx hb dL_law_621 rfl (lv_at hl 0 rfl) ?_
  refine lv_iload hx hb dL_law_622 (lv_at hl 4 rfl) ?_
  refine lv_iconst (v := 1) hx hb dL_law_624 (by decide) ?_
  refine lv_iadd hx hb dL_law_625 ?_
  refine va_sld hx hb hSc hbl hbA hS (hin 1 (by decide)) dL_law_626 ?_
  refine lv_aload_n hx hb dL_law_627 rfl (lv_at hl 0 rfl) ?_
  refine lv_iload hx hb dL_law_628 (lv_at hl 4 rfl) ?_
  refine lv_iconst (v := 2) hx hb dL_law_630 (by decide) ?_
  refine lv_iadd hx hb dL_law_631 ?_
  refine va_sld hx hb hSc hbl hbA hS (hin 2 (by decide)) dL_law_632 ?_
  refine lv_aload_n hx hb dL_law_633 rfl (lv_at hl 0 rfl) ?_
  refine lv_iload hx hb dL_law_634 (lv_at hl 4 rfl) ?_
  refine lv_iconst (v := 3) hx hb dL_law_636 (by decide) ?_
  refine lv_iadd hx hb dL_law_637 ?_
  refine va_sld hx hb hSc hbl hbA hS (hin 3 (by decide)) dL_law_638 ?_
  refine lv_aload_n hx hb dL_law_639 rfl (lv_at hl 3 rfl) ?_
  refine ig_Wi (As := [.ref (a 0), .int (lk_v xs x4 1), .int (lk_v xs x4 2), .int (lk_v xs x4 3), .ref o]) (rest := []) (hh := [(0, 12, 15, 13)]) ⟨hx, hb, hml, hown, hts⟩ (t_L_runOf l hl0 D cI cZ cJ a g o (fun q : Nat => s.heap.size ≤ q) (lk_v xs x4 1) (lk_v xs x4 2) (lk_v xs x4 3) σ ρ f hA) (vx_cwSW 5 hts gL_law_L_runOf rfl rfl rfl (by decide +kernel) ⟨Nat.le_of_ble_eq_true rfl, Nat.le_of_ble_eq_true rfl⟩) xk_blind (xk_pre hP hK hD hN hXk hS) hS rfl hl.1 rfl (Nat.le_of_ble_eq_true rfl) dL_law_640 ⟨by show cells + 1 ≤ 1053; omega, by show slots + 6 ≤ 14505; omega⟩ (fun H locs hP hD hS => ?_)
  refine lv_istore (lv' := [(5, .int 1), (0, .ref bs), (1, .ref (a 0)), (2, .ref (g 0)), (3, .ref o), (4, .int x4)]) hx hb dL_law_643 hl (by decide) rfl (fun ls hl => ?_)
  refine lv_aload_n hx hb dL_law_645 rfl (lv_at hl 3 rfl) ?_
  refine lv_aload_n hx hb dL_law_646 rfl (lv_at hl 1 rfl) ?_
  refine lv_iload hx hb dL_law_647 (lv_at hl 5 rfl) ?_
  refine lv_iconst (v := 1) hx hb dL_law_649 (by decide) ?_
  refine lv_iadd hx hb dL_law_650 ?_
  refine va_sld hx hb hSc hbl hbA hS (hin 1 (by decide)) dL_law_651 ?_
  refine lv_aload_n hx hb dL_law_652 rfl (lv_at hl 1 rfl) ?_
  refine lv_iload hx hb dL_law_653 (lv_at hl 5 rfl) ?_
  refine lv_iconst (v := 2) hx hb dL_law_655 (by decide) ?_
  refine lv_iadd hx hb dL_law_656 ?_
  refine va_sld hx hb hSc hbl hbA hS (hin 2 (by decide)) dL_law_657 ?_
  refine lv_aload_n hx hb dL_law_658 rfl (lv_at hl 1 rfl) ?_
  refine lv_iload hx hb dL_law_659 (lv_at hl 5 rfl) ?_
  refine lv_iconst (v := 3) hx hb dL_law_661 (by decide) ?_
  refine lv_iadd hx hb dL_law_662 ?_
  refine va_sld hx hb hSc hbl hbA hS (hin 3 (by decide)) dL_law_663 ?_
  refine ig_Vi (As := [.int (lk_v xs x4 1), .int (lk_v xs x4 2), .int (lk_v xs x4 3)]) (rest := []) ⟨hx, hb, hml, hown, hts⟩ (fr_i (isT := [0, 1]) (fun A => c_X8_runOf l D cI cZ g A (lk_v xs x4 1) (lk_v xs x4 2) (lk_v xs x4 3) ρ r ρ1 hB) (lk_emM cI cZ cJ a g o σ ρ ρ1 f) rfl (fun _ h => absurd h List.not_mem_nil) (fun q : Nat => s.heap.size ≤ q)) (cwV 3 hts gL_law_X8_runOf rfl rfl rfl (by decide +kernel) ⟨Nat.le_of_ble_eq_true rfl, Nat.le_of_ble_eq_true rfl⟩) (va_recv hK hP (ci := 6) (q0 := 16) rfl rfl) hP hK hD hN hS rfl hl.1 rfl (Nat.le_of_ble_eq_true rfl) dL_law_664 ⟨by show (cells + 1) + 0 ≤ 1053; omega, by show (slots + 6) + 0 ≤ 14505; omega⟩ (fun H locs hP hD hS => ?_)
  refine lv_istore (lv' := [(6, .int r), (5, .int 1), (0, .ref bs), (1, .ref (a 0)), (2, .ref (g 0)), (3, .ref o), (4, .int x4)]) hx hb dL_law_667 hl (by decide) rfl (fun ls hl => ?_)
  refine lv_aload_n hx hb dL_law_669 rfl (lv_at hl 4 rfl) ?_
  refine ig_Vi (As := []) (rest := []) ⟨hx, hb, hml, hown, hts⟩ (fr_i (isT := [0, 1]) (fun A => c_X8_thrown l D cI cZ g A  ρ1 (mk_code ρ1) rfl) (lk_emM cI cZ cJ a g o σ ρ1 ρ1 f) rfl (fun _ h => absurd h List.not_mem_nil) (fun q : Nat => s.heap.size ≤ q)) (cwV 0 hts gL_law_X8_thrown rfl rfl rfl (by decide +kernel) ⟨Nat.le_of_ble_eq_true rfl, Nat.le_of_ble_eq_true rfl⟩) (va_recv hK hP (ci := 6) (q0 := 16) rfl rfl) hP hK hD hN hS rfl hl.1 rfl (Nat.le_of_ble_eq_true rfl) dL_law_670 ⟨by show (cells + 1) + 0 ≤ 1053; omega, by show (slots + 6) + 0 ≤ 14505; omega⟩ (fun H locs hP hD hS => ?_)
  refine lv_iload hx hb dL_law_673 (lv_at hl 1 rfl) ?_
  refine lv_icmp_eq (tgt := 680) hx hb dL_law_675 (by decide) (fun _ => ?_) (fun c9 => absurd hC c9)
  refine lv_iload hx hb dL_law_680 (lv_at hl 1 rfl) ?_
  refine lv_if_ne (tgt := 697) hx hb dL_law_682 (by decide) (fun _ => ?_) (fun c9 => absurd c9 (by decide))
  refine lv_goto (tgt := 968) hx hb dL_law_697 (by decide) ?_
  refine W.widen (k := cells + 1) (n := slots + 6) (by omega) (by omega) ?_
  exact KK _ _ _ _ hP hD hS (lv_sub hl [2, 3, 4, 5, 6] rfl)
