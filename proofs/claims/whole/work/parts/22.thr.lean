abbrev rm_X7_hold : Room := { frames := 2, cells := 0, slots := 0, locals := 40 }
theorem in_X7_hold_X7 : ∀ w ∈ wsX70, w ∈ wsX7_hold := by decide +kernel
set_option maxHeartbeats 4000000 in
set_option maxRecDepth 100000 in
theorem c_X7_hold (l : Launch) (D : va_G) (cI cZ : ClassId) (a : Nat → Nat) (A : Nat → Prop) (p0 : Int32) (p1 : Int32) (σ : ck_S) (σz : ck_S) (h : fX7_hold p0 p1 σ = some σz) : Met l yX7_hold wsX7_hold rm_X7_hold (va_Pc [.ref (a 0), .int p0, .int p1] (ik_P D [(cI, .int), (cZ, .boolean)] ck_N (ck_W cI cZ a) A σ)) (ik_Qv D (ck_W cI cZ a) A σz) 0 0 A := by
  unfold fX7_hold at h
  refine Met.ofW (cc := cX7_hold) (maxL := 3) (ret := none) (by decide) rfl ?_
  intro p e s m args below meth c s₁ B hml hv
  obtain ⟨hAr, hP, hK, hD, hN⟩ := hv
  have hx := B.exec
  have hb := B.bytes
  have hr := B.returns
  have hts := atoms_spec (ws := wsX7_hold) B.pre
  have hown : s.vm.findClass RX7 = some m.cls := findClass_of_methodNamed B.named
  have hlocks := B.notSynchronized
  have hS : va_S A s.heap s.heap [] := va_S.rf
  have hl := lv_entry ([.ref (a 0), .int p0, .int p1]) (n := 3) (Nat.le_of_ble_eq_true rfl)
  rw [show entryFrame m args 3 = entryFrame m ([.ref (a 0), .int p0, .int p1] : List Value).toArray 3 from by rw [hAr], lg_entry_eq]
  generalize (lg_sl ([.ref (a 0), .int p0, .int p1]) ++ List.replicate (3 - (lg_sl ([.ref (a 0), .int p0, .int p1])).length) Slot.unset).toArray = ls at hl ⊢
  have hl : lv_has ls 3 [(0, .ref (a 0)), (1, .int p0), (2, .int p1)] := hl
  refine lv_iload_n hx hb dX7_hold_0 rfl (lv_at hl 1 rfl) ?_
  obtain ⟨u1, eh, h⟩ := ik_bd h
  refine ik_Sv (As := [.int p0]) (rest := []) ⟨hx, hb, hml, hown, hts⟩ (c_X7_needFile l D cI cZ a A p0 σ eh) (va_cwS 1 hts gX7_hold_X7_needFile rfl rfl rfl (by decide +kernel) ⟨Nat.le_of_ble_eq_true rfl, Nat.le_of_ble_eq_true rfl⟩) hP hK hD hN hS rfl hl.1 rfl (Nat.le_of_ble_eq_true rfl) dX7_hold_1 (fun H locs hP hD hS => ?_)
  clear eh
  refine lv_aload_n hx hb dX7_hold_4 rfl (lv_at hl 0 rfl) ?_
  refine va_get (D := D) (ci := 5) (v := .ref (a 4)) (C := RX7) (T := TX7) (N := 6) hx hb hts in_X7_hold_X7 hown hK hP 0 rfl rfl 1 (by decide) (hts (.fieldLink RX7 16 "ImageChecker" "held" "[Z") (by decide +kernel)) (fun _ h9 => h9) rfl dX7_hold_5 ?_
  refine lv_iload_n hx hb dX7_hold_8 rfl (lv_at hl 1 rfl) ?_
  refine lv_iload_n hx hb dX7_hold_9 rfl (lv_at hl 2 rfl) ?_
  obtain ⟨σ2, eh, h⟩ := ik_bd h
  refine ik_zst (Wd := ck_W cI cZ a) (σ1 := σ2) hx hb hK hP hD hS 4 1 rfl rfl (fun _ => rfl) eh dX7_hold_10 (fun H locs hP hD hS => ?_)
  clear eh
  exact W.vret hx hb hr (fun t ht hW => ⟨⟨_, rfl, Option.some.inj h, by rw [ht]; exact hP, hD⟩, hS.F ht⟩) hS.2.2 dX7_hold_11
abbrev rt_X7_hold : Room := { frames := 7, cells := 1, slots := 6, locals := 110 }
set_option maxHeartbeats 4000000 in
set_option maxRecDepth 100000 in
theorem t_X7_hold (l : Launch) (hl0 : l.stackTraces = false) (D : va_G) (cI cZ : ClassId) (a : Nat → Nat) (A : Nat → Prop) (p0 : Int32) (p1 : Int32) (σ : ck_S) (h : tX7_hold p0 p1 σ = some ()) : vx_Met l yX7_hold wsX7_hold rt_X7_hold (va_Pc [.ref (a 0), .int p0, .int p1] (fun U => ik_P D [(cI, .int), (cZ, .boolean)] ck_N (ck_W cI cZ a) A σ U ∧ xk_P A U)) (xk_Qv A) (xk_X D (ck_W cI cZ a) A σ) 1 6 A := by
  unfold tX7_hold at h
  refine vx_ofW (cc := cX7_hold) (maxL := 3) (ret := none) (by decide) rfl ?_
  intro p e s m args below meth c s₁ B hml htab hv
  obtain ⟨hAr, ⟨hP, hK, hD, hN⟩, hX⟩ := hv
  have hx := B.exec
  have hb := B.bytes
  have hr := B.returns
  have hts := atoms_spec (ws := wsX7_hold) B.pre
  have hown : s.vm.findClass RX7 = some m.cls := findClass_of_methodNamed B.named
  have hlocks := B.notSynchronized
  have hS : va_S A s.heap s.heap [] := va_S.rf
  have hl := lv_entry ([.ref (a 0), .int p0, .int p1]) (n := 3) (Nat.le_of_ble_eq_true rfl)
  rw [show entryFrame m args 3 = entryFrame m ([.ref (a 0), .int p0, .int p1] : List Value).toArray 3 from by rw [hAr], lg_entry_eq]
  generalize (lg_sl ([.ref (a 0), .int p0, .int p1]) ++ List.replicate (3 - (lg_sl ([.ref (a 0), .int p0, .int p1])).length) Slot.unset).toArray = ls at hl ⊢
  have hl : lv_has ls 3 [(0, .ref (a 0)), (1, .int p0), (2, .int p1)] := hl
  refine lv_iload_n hx hb dX7_hold_0 rfl (lv_at hl 1 rfl) ?_
  by_cases c1 : tX7_needFile p0 σ = some ()
  · exact xk_St (As := [.int p0]) (rest := []) ⟨hx, hb, hml, hown, hts⟩ (t_X7_needFile l hl0 D cI cZ a A p0 σ c1) (va_cwS 1 hts gX7_hold_X7_needFile rfl rfl rfl (by decide +kernel) ⟨Nat.le_of_ble_eq_true rfl, Nat.le_of_ble_eq_true rfl⟩) hP hK hD hN hX hS rfl hl.1 rfl (Nat.le_of_ble_eq_true rfl) dX7_hold_1 ⟨by decide, by decide⟩ htab hlocks
  have h := ik_f c1 h
  obtain ⟨u2, eh, h⟩ := ik_bd h
  refine ik_Sv (As := [.int p0]) (rest := []) ⟨hx, hb, hml, hown, hts⟩ (c_X7_needFile l D cI cZ a A p0 σ eh) (va_cwS 1 hts gX7_hold_X7_needFile rfl rfl rfl (by decide +kernel) ⟨Nat.le_of_ble_eq_true rfl, Nat.le_of_ble_eq_true rfl⟩) hP hK hD hN hS rfl hl.1 rfl (Nat.le_of_ble_eq_true rfl) dX7_hold_1 (fun H locs hP hD hS => ?_)
  clear eh
  refine lv_aload_n hx hb dX7_hold_4 rfl (lv_at hl 0 rfl) ?_
  refine va_get (D := D) (ci := 5) (v := .ref (a 4)) (C := RX7) (T := TX7) (N := 6) hx hb hts in_X7_hold_X7 hown hK hP 0 rfl rfl 1 (by decide) (hts (.fieldLink RX7 16 "ImageChecker" "held" "[Z") (by decide +kernel)) (fun _ h9 => h9) rfl dX7_hold_5 ?_
  refine lv_iload_n hx hb dX7_hold_8 rfl (lv_at hl 1 rfl) ?_
  refine lv_iload_n hx hb dX7_hold_9 rfl (lv_at hl 2 rfl) ?_
  obtain ⟨σ3, eh, h⟩ := ik_bd h
  refine ik_zst (Wd := ck_W cI cZ a) (σ1 := σ3) hx hb hK hP hD hS 4 1 rfl rfl (fun _ => rfl) eh dX7_hold_10 (fun H locs hP hD hS => ?_)
  clear eh
  cases h
abbrev rm_X7_isTaken : Room := { frames := 2, cells := 0, slots := 0, locals := 43 }
theorem in_X7_isTaken_X7 : ∀ w ∈ wsX70, w ∈ wsX7_isTaken := by decide +kernel
set_option maxHeartbeats 4000000 in
set_option maxRecDepth 100000 in
theorem c_X7_isTaken (l : Launch) (D : va_G) (cI cZ : ClassId) (a : Nat → Nat) (A : Nat → Prop) (p0 : Int32) (p1 : Int32) (σ : ck_S) (rz : Int32) (h : fX7_isTaken p0 p1 σ = some rz) : Met l yX7_isTaken wsX7_isTaken rm_X7_isTaken (va_Pc [.ref (a 0), .int p0, .int p1] (ik_P D [(cI, .int), (cZ, .boolean)] ck_N (ck_W cI cZ a) A σ)) (ik_Qi D (ck_W cI cZ a) A rz σ) 0 0 A := by
  unfold fX7_isTaken at h
  refine Met.ofW (cc := cX7_isTaken) (maxL := 3) (ret := (some .boolean)) (by decide) rfl ?_
  intro p e s m args below meth c s₁ B hml hv
  obtain ⟨hAr, hP, hK, hD, hN⟩ := hv
  have hx := B.exec
  have hb := B.bytes
  have hr := B.returns
  have hts := atoms_spec (ws := wsX7_isTaken) B.pre
  have hown : s.vm.findClass RX7 = some m.cls := findClass_of_methodNamed B.named
  have hlocks := B.notSynchronized
  have hS : va_S A s.heap s.heap [] := va_S.rf
  have hl := lv_entry ([.ref (a 0), .int p0, .int p1]) (n := 3) (Nat.le_of_ble_eq_true rfl)
  rw [show entryFrame m args 3 = entryFrame m ([.ref (a 0), .int p0, .int p1] : List Value).toArray 3 from by rw [hAr], lg_entry_eq]
  generalize (lg_sl ([.ref (a 0), .int p0, .int p1]) ++ List.replicate (3 - (lg_sl ([.ref (a 0), .int p0, .int p1])).length) Slot.unset).toArray = ls at hl ⊢
  have hl : lv_has ls 3 [(0, .ref (a 0)), (1, .int p0), (2, .int p1)] := hl
  refine lv_iload_n hx hb dX7_isTaken_0 rfl (lv_at hl 1 rfl) ?_
  refine lv_iload_n hx hb dX7_isTaken_1 rfl (lv_at hl 2 rfl) ?_
  obtain ⟨u1, eh, h⟩ := ik_bd h
  refine ik_Sv (As := [.int p0, .int p1]) (rest := []) ⟨hx, hb, hml, hown, hts⟩ (c_X7_needBit l D cI cZ a A p0 p1 σ eh) (va_cwS 2 hts gX7_isTaken_X7_needBit rfl rfl rfl (by decide +kernel) ⟨Nat.le_of_ble_eq_true rfl, Nat.le_of_ble_eq_true rfl⟩) hP hK hD hN hS rfl hl.1 rfl (Nat.le_of_ble_eq_true rfl) dX7_isTaken_2 (fun H locs hP hD hS => ?_)
  clear eh
  refine lv_aload_n hx hb dX7_isTaken_5 rfl (lv_at hl 0 rfl) ?_
  refine va_get (D := D) (ci := 5) (v := .ref (a 1)) (C := RX7) (T := TX7) (N := 6) hx hb hts in_X7_isTaken_X7 hown hK hP 0 rfl rfl 0 (by decide) (hts (.fieldLink RX7 10 "ImageChecker" "tables" "LImageChecker$Tables;") (by decide +kernel)) (fun _ h9 => h9) rfl dX7_isTaken_6 ?_
  refine lv_iload_n hx hb dX7_isTaken_9 rfl (lv_at hl 1 rfl) ?_
  refine lv_iload_n hx hb dX7_isTaken_10 rfl (lv_at hl 2 rfl) ?_
  obtain ⟨v2, eh, h⟩ := ik_bd h
  refine ik_Vi (As := [.int p0, .int p1]) (rest := []) ⟨hx, hb, hml, hown, hts⟩ (c_X5_bitOf l D cI cZ a A p0 p1 σ _ eh) (cwV 2 hts gX7_isTaken_X5_bitOf rfl rfl rfl (by decide +kernel) ⟨Nat.le_of_ble_eq_true rfl, Nat.le_of_ble_eq_true rfl⟩) (va_recv hK hP (ci := 3) (q0 := 1) rfl rfl) hP hK hD hN hS rfl hl.1 rfl (Nat.le_of_ble_eq_true rfl) dX7_isTaken_11 (fun H locs hP hD hS => ?_)
  clear eh
  refine lv_if_eq (tgt := 21) hx hb dX7_isTaken_14 (by decide) (fun c3 => ?_) (fun c3 => ?_)
  · have h := ik_t c3 h
    refine lv_iconst (v := 0) hx hb dX7_isTaken_21 (by decide) ?_
    exact W.zret (v := 0) hx hb hr rfl (fun t ht hW => ⟨⟨_, _, rfl, ⟨Option.some.inj h, rfl⟩, by rw [ht]; exact hP, hD⟩, hS.F ht⟩) hS.2.2 dX7_isTaken_22
  · have h := ik_f c3 h
    refine lv_iconst (v := 1) hx hb dX7_isTaken_17 (by decide) ?_
    refine lv_goto (tgt := 22) hx hb dX7_isTaken_18 (by decide) ?_
    exact W.zret (v := 1) hx hb hr rfl (fun t ht hW => ⟨⟨_, _, rfl, ⟨Option.some.inj h, rfl⟩, by rw [ht]; exact hP, hD⟩, hS.F ht⟩) hS.2.2 dX7_isTaken_22
abbrev rt_X7_isTaken : Room := { frames := 7, cells := 1, slots := 6, locals := 113 }
set_option maxHeartbeats 4000000 in
set_option maxRecDepth 100000 in
theorem t_X7_isTaken (l : Launch) (hl0 : l.stackTraces = false) (D : va_G) (cI cZ : ClassId) (a : Nat → Nat) (A : Nat → Prop) (p0 : Int32) (p1 : Int32) (σ : ck_S) (h : tX7_isTaken p0 p1 σ = some ()) : vx_Met l yX7_isTaken wsX7_isTaken rt_X7_isTaken (va_Pc [.ref (a 0), .int p0, .int p1] (fun U => ik_P D [(cI, .int), (cZ, .boolean)] ck_N (ck_W cI cZ a) A σ U ∧ xk_P A U)) (xk_Qi A) (xk_X D (ck_W cI cZ a) A σ) 1 6 A := by
  unfold tX7_isTaken at h
  refine vx_ofW (cc := cX7_isTaken) (maxL := 3) (ret := (some .boolean)) (by decide) rfl ?_
  intro p e s m args below meth c s₁ B hml htab hv
  obtain ⟨hAr, ⟨hP, hK, hD, hN⟩, hX⟩ := hv
  have hx := B.exec
  have hb := B.bytes
  have hr := B.returns
  have hts := atoms_spec (ws := wsX7_isTaken) B.pre
  have hown : s.vm.findClass RX7 = some m.cls := findClass_of_methodNamed B.named
  have hlocks := B.notSynchronized
  have hS : va_S A s.heap s.heap [] := va_S.rf
  have hl := lv_entry ([.ref (a 0), .int p0, .int p1]) (n := 3) (Nat.le_of_ble_eq_true rfl)
  rw [show entryFrame m args 3 = entryFrame m ([.ref (a 0), .int p0, .int p1] : List Value).toArray 3 from by rw [hAr], lg_entry_eq]
  generalize (lg_sl ([.ref (a 0), .int p0, .int p1]) ++ List.replicate (3 - (lg_sl ([.ref (a 0), .int p0, .int p1])).length) Slot.unset).toArray = ls at hl ⊢
  have hl : lv_has ls 3 [(0, .ref (a 0)), (1, .int p0), (2, .int p1)] := hl
  refine lv_iload_n hx hb dX7_isTaken_0 rfl (lv_at hl 1 rfl) ?_
  refine lv_iload_n hx hb dX7_isTaken_1 rfl (lv_at hl 2 rfl) ?_
  by_cases c1 : tX7_needBit p0 p1 σ = some ()
  · exact xk_St (As := [.int p0, .int p1]) (rest := []) ⟨hx, hb, hml, hown, hts⟩ (t_X7_needBit l hl0 D cI cZ a A p0 p1 σ c1) (va_cwS 2 hts gX7_isTaken_X7_needBit rfl rfl rfl (by decide +kernel) ⟨Nat.le_of_ble_eq_true rfl, Nat.le_of_ble_eq_true rfl⟩) hP hK hD hN hX hS rfl hl.1 rfl (Nat.le_of_ble_eq_true rfl) dX7_isTaken_2 ⟨by decide, by decide⟩ htab hlocks
  have h := ik_f c1 h
  obtain ⟨u2, eh, h⟩ := ik_bd h
  refine ik_Sv (As := [.int p0, .int p1]) (rest := []) ⟨hx, hb, hml, hown, hts⟩ (c_X7_needBit l D cI cZ a A p0 p1 σ eh) (va_cwS 2 hts gX7_isTaken_X7_needBit rfl rfl rfl (by decide +kernel) ⟨Nat.le_of_ble_eq_true rfl, Nat.le_of_ble_eq_true rfl⟩) hP hK hD hN hS rfl hl.1 rfl (Nat.le_of_ble_eq_true rfl) dX7_isTaken_2 (fun H locs hP hD hS => ?_)
  clear eh
  refine lv_aload_n hx hb dX7_isTaken_5 rfl (lv_at hl 0 rfl) ?_
  refine va_get (D := D) (ci := 5) (v := .ref (a 1)) (C := RX7) (T := TX7) (N := 6) hx hb hts in_X7_isTaken_X7 hown hK hP 0 rfl rfl 0 (by decide) (hts (.fieldLink RX7 10 "ImageChecker" "tables" "LImageChecker$Tables;") (by decide +kernel)) (fun _ h9 => h9) rfl dX7_isTaken_6 ?_
  refine lv_iload_n hx hb dX7_isTaken_9 rfl (lv_at hl 1 rfl) ?_
  refine lv_iload_n hx hb dX7_isTaken_10 rfl (lv_at hl 2 rfl) ?_
  obtain ⟨v3, eh, h⟩ := ik_bd h
  refine ik_Vi (As := [.int p0, .int p1]) (rest := []) ⟨hx, hb, hml, hown, hts⟩ (c_X5_bitOf l D cI cZ a A p0 p1 σ _ eh) (cwV 2 hts gX7_isTaken_X5_bitOf rfl rfl rfl (by decide +kernel) ⟨Nat.le_of_ble_eq_true rfl, Nat.le_of_ble_eq_true rfl⟩) (va_recv hK hP (ci := 3) (q0 := 1) rfl rfl) hP hK hD hN hS rfl hl.1 rfl (Nat.le_of_ble_eq_true rfl) dX7_isTaken_11 (fun H locs hP hD hS => ?_)
  clear eh
  refine lv_if_eq (tgt := 21) hx hb dX7_isTaken_14 (by decide) (fun c4 => ?_) (fun c4 => ?_)
  · have h := ik_t c4 h
    refine lv_iconst (v := 0) hx hb dX7_isTaken_21 (by decide) ?_
    cases h
  · have h := ik_f c4 h
    refine lv_iconst (v := 1) hx hb dX7_isTaken_17 (by decide) ?_
    refine lv_goto (tgt := 22) hx hb dX7_isTaken_18 (by decide) ?_
    cases h
abbrev rm_X7_run : Room := { frames := 2, cells := 0, slots := 0, locals := 47 }
theorem in_X7_run_X7 : ∀ w ∈ wsX70, w ∈ wsX7_run := by decide +kernel
set_option maxHeartbeats 4000000 in
set_option maxRecDepth 100000 in
theorem c_X7_run (l : Launch) (D : va_G) (cI cZ : ClassId) (a : Nat → Nat) (A : Nat → Prop) (p0 : Int32) (p1 : Int32) (p2 : Int32) (p3 : Int32) (p4 : Int32) (σ : ck_S) (σz : ck_S) (h : fX7_run p0 p1 p2 p3 p4 σ = some σz) : Met l yX7_run wsX7_run rm_X7_run (va_Pc [.ref (a 0), .int p0, .int p1, .int p2, .int p3, .int p4] (ik_P D [(cI, .int), (cZ, .boolean)] ck_N (ck_W cI cZ a) A σ)) (ik_Qv D (ck_W cI cZ a) A σz) 0 0 A := by
  unfold fX7_run at h
  refine Met.ofW (cc := cX7_run) (maxL := 6) (ret := none) (by decide) rfl ?_
  intro p e s m args below meth c s₁ B hml hv
  obtain ⟨hAr, hP, hK, hD, hN⟩ := hv
  have hx := B.exec
  have hb := B.bytes
  have hr := B.returns
  have hts := atoms_spec (ws := wsX7_run) B.pre
  have hown : s.vm.findClass RX7 = some m.cls := findClass_of_methodNamed B.named
  have hlocks := B.notSynchronized
  have hS : va_S A s.heap s.heap [] := va_S.rf
  have hl := lv_entry ([.ref (a 0), .int p0, .int p1, .int p2, .int p3, .int p4]) (n := 6) (Nat.le_of_ble_eq_true rfl)
  rw [show entryFrame m args 6 = entryFrame m ([.ref (a 0), .int p0, .int p1, .int p2, .int p3, .int p4] : List Value).toArray 6 from by rw [hAr], lg_entry_eq]
  generalize (lg_sl ([.ref (a 0), .int p0, .int p1, .int p2, .int p3, .int p4]) ++ List.replicate (6 - (lg_sl ([.ref (a 0), .int p0, .int p1, .int p2, .int p3, .int p4])).length) Slot.unset).toArray = ls at hl ⊢
  have hl : lv_has ls 6 [(0, .ref (a 0)), (1, .int p0), (2, .int p1), (3, .int p2), (4, .int p3), (5, .int p4)] := hl
  refine lv_iload_n hx hb dX7_run_0 rfl (lv_at hl 1 rfl) ?_
  obtain ⟨u1, eh, h⟩ := ik_bd h
  refine ik_Sv (As := [.int p0]) (rest := []) ⟨hx, hb, hml, hown, hts⟩ (c_X7_needFile l D cI cZ a A p0 σ eh) (va_cwS 1 hts gX7_run_X7_needFile rfl rfl rfl (by decide +kernel) ⟨Nat.le_of_ble_eq_true rfl, Nat.le_of_ble_eq_true rfl⟩) hP hK hD hN hS rfl hl.1 rfl (Nat.le_of_ble_eq_true rfl) dX7_run_1 (fun H locs hP hD hS => ?_)
  clear eh
  refine lv_iload_n hx hb dX7_run_4 rfl (lv_at hl 2 rfl) ?_
  refine lv_bipush (v := 6) hx hb dX7_run_5 (by decide) ?_
  obtain ⟨u2, eh, h⟩ := ik_bd h
  refine ik_Sv (As := [.int p1, .int 6]) (rest := []) ⟨hx, hb, hml, hown, hts⟩ (c_X7_needPlace l D cI cZ a A p1 6 σ eh) (va_cwS 2 hts gX7_run_X7_needPlace rfl rfl rfl (by decide +kernel) ⟨Nat.le_of_ble_eq_true rfl, Nat.le_of_ble_eq_true rfl⟩) hP hK hD hN hS rfl hl.1 rfl (Nat.le_of_ble_eq_true rfl) dX7_run_7 (fun H locs hP hD hS => ?_)
  clear eh
  refine lv_aload_n hx hb dX7_run_10 rfl (lv_at hl 0 rfl) ?_
  refine va_get (D := D) (ci := 5) (v := .ref (a 1)) (C := RX7) (T := TX7) (N := 6) hx hb hts in_X7_run_X7 hown hK hP 0 rfl rfl 0 (by decide) (hts (.fieldLink RX7 10 "ImageChecker" "tables" "LImageChecker$Tables;") (by decide +kernel)) (fun _ h9 => h9) rfl dX7_run_11 ?_
  refine lv_iload_n hx hb dX7_run_14 rfl (lv_at hl 1 rfl) ?_
  refine lv_iload_n hx hb dX7_run_15 rfl (lv_at hl 2 rfl) ?_
  refine lv_iload_n hx hb dX7_run_16 rfl (lv_at hl 3 rfl) ?_
  refine lv_iload hx hb dX7_run_17 (lv_at hl 4 rfl) ?_
  refine lv_iload hx hb dX7_run_19 (lv_at hl 5 rfl) ?_
  obtain ⟨σ3, eh, h⟩ := ik_bd h
  refine ik_Vv (As := [.int p0, .int p1, .int p2, .int p3, .int p4]) (rest := []) ⟨hx, hb, hml, hown, hts⟩ (c_X5_putRun l D cI cZ a A p0 p1 p2 p3 p4 σ _ eh) (cwV 5 hts gX7_run_X5_putRun rfl rfl rfl (by decide +kernel) ⟨Nat.le_of_ble_eq_true rfl, Nat.le_of_ble_eq_true rfl⟩) (va_recv hK hP (ci := 3) (q0 := 1) rfl rfl) hP hK hD hN hS rfl hl.1 rfl (Nat.le_of_ble_eq_true rfl) dX7_run_21 (fun H locs hP hD hS => ?_)
  clear eh
  exact W.vret hx hb hr (fun t ht hW => ⟨⟨_, rfl, Option.some.inj h, by rw [ht]; exact hP, hD⟩, hS.F ht⟩) hS.2.2 dX7_run_24
abbrev rt_X7_run : Room := { frames := 7, cells := 1, slots := 6, locals := 111 }
set_option maxHeartbeats 4000000 in
set_option maxRecDepth 100000 in
theorem t_X7_run (l : Launch) (hl0 : l.stackTraces = false) (D : va_G) (cI cZ : ClassId) (a : Nat → Nat) (A : Nat → Prop) (p0 : Int32) (p1 : Int32) (p2 : Int32) (p3 : Int32) (p4 : Int32) (σ : ck_S) (h : tX7_run p0 p1 p2 p3 p4 σ = some ()) : vx_Met l yX7_run wsX7_run rt_X7_run (va_Pc [.ref (a 0), .int p0, .int p1, .int p2, .int p3, .int p4] (fun U => ik_P D [(cI, .int), (cZ, .boolean)] ck_N (ck_W cI cZ a) A σ U ∧ xk_P A U)) (xk_Qv A) (xk_X D (ck_W cI cZ a) A σ) 1 6 A := by
  unfold tX7_run at h
  refine vx_ofW (cc := cX7_run) (maxL := 6) (ret := none) (by decide) rfl ?_
  intro p e s m args below meth c s₁ B hml htab hv
  obtain ⟨hAr, ⟨hP, hK, hD, hN⟩, hX⟩ := hv
  have hx := B.exec
  have hb := B.bytes
  have hr := B.returns
  have hts := atoms_spec (ws := wsX7_run) B.pre
  have hown : s.vm.findClass RX7 = some m.cls := findClass_of_methodNamed B.named
  have hlocks := B.notSynchronized
  have hS : va_S A s.heap s.heap [] := va_S.rf
  have hl := lv_entry ([.ref (a 0), .int p0, .int p1, .int p2, .int p3, .int p4]) (n := 6) (Nat.le_of_ble_eq_true rfl)
  rw [show entryFrame m args 6 = entryFrame m ([.ref (a 0), .int p0, .int p1, .int p2, .int p3, .int p4] : List Value).toArray 6 from by rw [hAr], lg_entry_eq]
  generalize (lg_sl ([.ref (a 0), .int p0, .int p1, .int p2, .int p3, .int p4]) ++ List.replicate (6 - (lg_sl ([.ref (a 0), .int p0, .int p1, .int p2, .int p3, .int p4])).length) Slot.unset).toArray = ls at hl ⊢
  have hl : lv_has ls 6 [(0, .ref (a 0)), (1, .int p0), (2, .int p1), (3, .int p2), (4, .int p3), (5, .int p4)] := hl
  refine lv_iload_n hx hb dX7_run_0 rfl (lv_at hl 1 rfl) ?_
  by_cases c1 : tX7_needFile p0 σ = some ()
  · exact xk_St (As := [.int p0]) (rest := []) ⟨hx, hb, hml, hown, hts⟩ (t_X7_needFile l hl0 D cI cZ a A p0 σ c1) (va_cwS 1 hts gX7_run_X7_needFile rfl rfl rfl (by decide +kernel) ⟨Nat.le_of_ble_eq_true rfl, Nat.le_of_ble_eq_true rfl⟩) hP hK hD hN hX hS rfl hl.1 rfl (Nat.le_of_ble_eq_true rfl) dX7_run_1 ⟨by decide, by decide⟩ htab hlocks
  have h := ik_f c1 h
  obtain ⟨u2, eh, h⟩ := ik_bd h
  refine ik_Sv (As := [.int p0]) (rest := []) ⟨hx, hb, hml, hown, hts⟩ (c_X7_needFile l D cI cZ a A p0 σ eh) (va_cwS 1 hts gX7_run_X7_needFile rfl rfl rfl (by decide +kernel) ⟨Nat.le_of_ble_eq_true rfl, Nat.le_of_ble_eq_true rfl⟩) hP hK hD hN hS rfl hl.1 rfl (Nat.le_of_ble_eq_true rfl) dX7_run_1 (fun H locs hP hD hS => ?_)
  clear eh
  refine lv_iload_n hx hb dX7_run_4 rfl (lv_at hl 2 rfl) ?_
  refine lv_bipush (v := 6) hx hb dX7_run_5 (by decide) ?_
  by_cases c3 : tX7_needPlace p1 6 σ = some ()
  · exact xk_St (As := [.int p1, .int 6]) (rest := []) ⟨hx, hb, hml, hown, hts⟩ (t_X7_needPlace l hl0 D cI cZ a A p1 6 σ c3) (va_cwS 2 hts gX7_run_X7_needPlace rfl rfl rfl (by decide +kernel) ⟨Nat.le_of_ble_eq_true rfl, Nat.le_of_ble_eq_true rfl⟩) hP hK hD hN hX hS rfl hl.1 rfl (Nat.le_of_ble_eq_true rfl) dX7_run_7 ⟨by decide, by decide⟩ htab hlocks
  have h := ik_f c3 h
  obtain ⟨u4, eh, h⟩ := ik_bd h
  refine ik_Sv (As := [.int p1, .int 6]) (rest := []) ⟨hx, hb, hml, hown, hts⟩ (c_X7_needPlace l D cI cZ a A p1 6 σ eh) (va_cwS 2 hts gX7_run_X7_needPlace rfl rfl rfl (by decide +kernel) ⟨Nat.le_of_ble_eq_true rfl, Nat.le_of_ble_eq_true rfl⟩) hP hK hD hN hS rfl hl.1 rfl (Nat.le_of_ble_eq_true rfl) dX7_run_7 (fun H locs hP hD hS => ?_)
  clear eh
  refine lv_aload_n hx hb dX7_run_10 rfl (lv_at hl 0 rfl) ?_
  refine va_get (D := D) (ci := 5) (v := .ref (a 1)) (C := RX7) (T := TX7) (N := 6) hx hb hts in_X7_run_X7 hown hK hP 0 rfl rfl 0 (by decide) (hts (.fieldLink RX7 10 "ImageChecker" "tables" "LImageChecker$Tables;") (by decide +kernel)) (fun _ h9 => h9) rfl dX7_run_11 ?_
  refine lv_iload_n hx hb dX7_run_14 rfl (lv_at hl 1 rfl) ?_
  refine lv_iload_n hx hb dX7_run_15 rfl (lv_at hl 2 rfl) ?_
  refine lv_iload_n hx hb dX7_run_16 rfl (lv_at hl 3 rfl) ?_
  refine lv_iload hx hb dX7_run_17 (lv_at hl 4 rfl) ?_
  refine lv_iload hx hb dX7_run_19 (lv_at hl 5 rfl) ?_
  obtain ⟨σ5, eh, h⟩ := ik_bd h
  refine ik_Vv (As := [.int p0, .int p1, .int p2, .int p3, .int p4]) (rest := []) ⟨hx, hb, hml, hown, hts⟩ (c_X5_putRun l D cI cZ a A p0 p1 p2 p3 p4 σ _ eh) (cwV 5 hts gX7_run_X5_putRun rfl rfl rfl (by decide +kernel) ⟨Nat.le_of_ble_eq_true rfl, Nat.le_of_ble_eq_true rfl⟩) (va_recv hK hP (ci := 3) (q0 := 1) rfl rfl) hP hK hD hN hS rfl hl.1 rfl (Nat.le_of_ble_eq_true rfl) dX7_run_21 (fun H locs hP hD hS => ?_)
  clear eh
  cases h
abbrev rm_X7_runOf : Room := { frames := 2, cells := 0, slots := 0, locals := 44 }
theorem in_X7_runOf_X7 : ∀ w ∈ wsX70, w ∈ wsX7_runOf := by decide +kernel
set_option maxHeartbeats 4000000 in
set_option maxRecDepth 100000 in
theorem c_X7_runOf (l : Launch) (D : va_G) (cI cZ : ClassId) (a : Nat → Nat) (A : Nat → Prop) (p0 : Int32) (p1 : Int32) (p2 : Int32) (σ : ck_S) (rz : Int32) (h : fX7_runOf p0 p1 p2 σ = some rz) : Met l yX7_runOf wsX7_runOf rm_X7_runOf (va_Pc [.ref (a 0), .int p0, .int p1, .int p2] (ik_P D [(cI, .int), (cZ, .boolean)] ck_N (ck_W cI cZ a) A σ)) (ik_Qi D (ck_W cI cZ a) A rz σ) 0 0 A := by
  unfold fX7_runOf at h
  refine Met.ofW (cc := cX7_runOf) (maxL := 4) (ret := (some .int)) (by decide) rfl ?_
  intro p e s m args below meth c s₁ B hml hv
  obtain ⟨hAr, hP, hK, hD, hN⟩ := hv
  have hx := B.exec
  have hb := B.bytes
  have hr := B.returns
  have hts := atoms_spec (ws := wsX7_runOf) B.pre
  have hown : s.vm.findClass RX7 = some m.cls := findClass_of_methodNamed B.named
  have hlocks := B.notSynchronized
  have hS : va_S A s.heap s.heap [] := va_S.rf
  have hl := lv_entry ([.ref (a 0), .int p0, .int p1, .int p2]) (n := 4) (Nat.le_of_ble_eq_true rfl)
  rw [show entryFrame m args 4 = entryFrame m ([.ref (a 0), .int p0, .int p1, .int p2] : List Value).toArray 4 from by rw [hAr], lg_entry_eq]
  generalize (lg_sl ([.ref (a 0), .int p0, .int p1, .int p2]) ++ List.replicate (4 - (lg_sl ([.ref (a 0), .int p0, .int p1, .int p2])).length) Slot.unset).toArray = ls at hl ⊢
  have hl : lv_has ls 4 [(0, .ref (a 0)), (1, .int p0), (2, .int p1), (3, .int p2)] := hl
  refine lv_iload_n hx hb dX7_runOf_0 rfl (lv_at hl 1 rfl) ?_
  obtain ⟨u1, eh, h⟩ := ik_bd h
  refine ik_Sv (As := [.int p0]) (rest := []) ⟨hx, hb, hml, hown, hts⟩ (c_X7_needFile l D cI cZ a A p0 σ eh) (va_cwS 1 hts gX7_runOf_X7_needFile rfl rfl rfl (by decide +kernel) ⟨Nat.le_of_ble_eq_true rfl, Nat.le_of_ble_eq_true rfl⟩) hP hK hD hN hS rfl hl.1 rfl (Nat.le_of_ble_eq_true rfl) dX7_runOf_1 (fun H locs hP hD hS => ?_)
  clear eh
  refine lv_iload_n hx hb dX7_runOf_4 rfl (lv_at hl 2 rfl) ?_
  refine lv_bipush (v := 6) hx hb dX7_runOf_5 (by decide) ?_
  obtain ⟨u2, eh, h⟩ := ik_bd h
  refine ik_Sv (As := [.int p1, .int 6]) (rest := []) ⟨hx, hb, hml, hown, hts⟩ (c_X7_needPlace l D cI cZ a A p1 6 σ eh) (va_cwS 2 hts gX7_runOf_X7_needPlace rfl rfl rfl (by decide +kernel) ⟨Nat.le_of_ble_eq_true rfl, Nat.le_of_ble_eq_true rfl⟩) hP hK hD hN hS rfl hl.1 rfl (Nat.le_of_ble_eq_true rfl) dX7_runOf_7 (fun H locs hP hD hS => ?_)
  clear eh
  refine lv_iload_n hx hb dX7_runOf_10 rfl (lv_at hl 3 rfl) ?_
  refine lv_iconst (v := 3) hx hb dX7_runOf_11 (by decide) ?_
  obtain ⟨u3, eh, h⟩ := ik_bd h
  refine ik_Sv (As := [.int p2, .int 3]) (rest := []) ⟨hx, hb, hml, hown, hts⟩ (c_X7_needPlace l D cI cZ a A p2 3 σ eh) (va_cwS 2 hts gX7_runOf_X7_needPlace rfl rfl rfl (by decide +kernel) ⟨Nat.le_of_ble_eq_true rfl, Nat.le_of_ble_eq_true rfl⟩) hP hK hD hN hS rfl hl.1 rfl (Nat.le_of_ble_eq_true rfl) dX7_runOf_12 (fun H locs hP hD hS => ?_)
  clear eh
  refine lv_aload_n hx hb dX7_runOf_15 rfl (lv_at hl 0 rfl) ?_
  refine va_get (D := D) (ci := 5) (v := .ref (a 1)) (C := RX7) (T := TX7) (N := 6) hx hb hts in_X7_runOf_X7 hown hK hP 0 rfl rfl 0 (by decide) (hts (.fieldLink RX7 10 "ImageChecker" "tables" "LImageChecker$Tables;") (by decide +kernel)) (fun _ h9 => h9) rfl dX7_runOf_16 ?_
  refine lv_iload_n hx hb dX7_runOf_19 rfl (lv_at hl 1 rfl) ?_
  refine lv_iload_n hx hb dX7_runOf_20 rfl (lv_at hl 2 rfl) ?_
  refine lv_iload_n hx hb dX7_runOf_21 rfl (lv_at hl 3 rfl) ?_
  obtain ⟨v4, eh, h⟩ := ik_bd h
  refine ik_Vi (As := [.int p0, .int p1, .int p2]) (rest := []) ⟨hx, hb, hml, hown, hts⟩ (c_X5_runPart l D cI cZ a A p0 p1 p2 σ _ eh) (cwV 3 hts gX7_runOf_X5_runPart rfl rfl rfl (by decide +kernel) ⟨Nat.le_of_ble_eq_true rfl, Nat.le_of_ble_eq_true rfl⟩) (va_recv hK hP (ci := 3) (q0 := 1) rfl rfl) hP hK hD hN hS rfl hl.1 rfl (Nat.le_of_ble_eq_true rfl) dX7_runOf_22 (fun H locs hP hD hS => ?_)
  clear eh
  exact W.iret hx hb hr (fun t ht hW => ⟨⟨_, _, rfl, ⟨Option.some.inj h, rfl⟩, by rw [ht]; exact hP, hD⟩, hS.F ht⟩) hS.2.2 dX7_runOf_25
abbrev rt_X7_runOf : Room := { frames := 7, cells := 1, slots := 6, locals := 111 }
set_option maxHeartbeats 4000000 in
set_option maxRecDepth 100000 in
theorem t_X7_runOf (l : Launch) (hl0 : l.stackTraces = false) (D : va_G) (cI cZ : ClassId) (a : Nat → Nat) (A : Nat → Prop) (p0 : Int32) (p1 : Int32) (p2 : Int32) (σ : ck_S) (h : tX7_runOf p0 p1 p2 σ = some ()) : vx_Met l yX7_runOf wsX7_runOf rt_X7_runOf (va_Pc [.ref (a 0), .int p0, .int p1, .int p2] (fun U => ik_P D [(cI, .int), (cZ, .boolean)] ck_N (ck_W cI cZ a) A σ U ∧ xk_P A U)) (xk_Qi A) (xk_X D (ck_W cI cZ a) A σ) 1 6 A := by
  unfold tX7_runOf at h
  refine vx_ofW (cc := cX7_runOf) (maxL := 4) (ret := (some .int)) (by decide) rfl ?_
  intro p e s m args below meth c s₁ B hml htab hv
  obtain ⟨hAr, ⟨hP, hK, hD, hN⟩, hX⟩ := hv
  have hx := B.exec
  have hb := B.bytes
  have hr := B.returns
  have hts := atoms_spec (ws := wsX7_runOf) B.pre
  have hown : s.vm.findClass RX7 = some m.cls := findClass_of_methodNamed B.named
  have hlocks := B.notSynchronized
  have hS : va_S A s.heap s.heap [] := va_S.rf
  have hl := lv_entry ([.ref (a 0), .int p0, .int p1, .int p2]) (n := 4) (Nat.le_of_ble_eq_true rfl)
  rw [show entryFrame m args 4 = entryFrame m ([.ref (a 0), .int p0, .int p1, .int p2] : List Value).toArray 4 from by rw [hAr], lg_entry_eq]
  generalize (lg_sl ([.ref (a 0), .int p0, .int p1, .int p2]) ++ List.replicate (4 - (lg_sl ([.ref (a 0), .int p0, .int p1, .int p2])).length) Slot.unset).toArray = ls at hl ⊢
  have hl : lv_has ls 4 [(0, .ref (a 0)), (1, .int p0), (2, .int p1), (3, .int p2)] := hl
  refine lv_iload_n hx hb dX7_runOf_0 rfl (lv_at hl 1 rfl) ?_
  by_cases c1 : tX7_needFile p0 σ = some ()
  · exact xk_St (As := [.int p0]) (rest := []) ⟨hx, hb, hml, hown, hts⟩ (t_X7_needFile l hl0 D cI cZ a A p0 σ c1) (va_cwS 1 hts gX7_runOf_X7_needFile rfl rfl rfl (by decide +kernel) ⟨Nat.le_of_ble_eq_true rfl, Nat.le_of_ble_eq_true rfl⟩) hP hK hD hN hX hS rfl hl.1 rfl (Nat.le_of_ble_eq_true rfl) dX7_runOf_1 ⟨by decide, by decide⟩ htab hlocks
  have h := ik_f c1 h
  obtain ⟨u2, eh, h⟩ := ik_bd h
  refine ik_Sv (As := [.int p0]) (rest := []) ⟨hx, hb, hml, hown, hts⟩ (c_X7_needFile l D cI cZ a A p0 σ eh) (va_cwS 1 hts gX7_runOf_X7_needFile rfl rfl rfl (by decide +kernel) ⟨Nat.le_of_ble_eq_true rfl, Nat.le_of_ble_eq_true rfl⟩) hP hK hD hN hS rfl hl.1 rfl (Nat.le_of_ble_eq_true rfl) dX7_runOf_1 (fun H locs hP hD hS => ?_)
  clear eh
  refine lv_iload_n hx hb dX7_runOf_4 rfl (lv_at hl 2 rfl) ?_
  refine lv_bipush (v := 6) hx hb dX7_runOf_5 (by decide) ?_
  by_cases c3 : tX7_needPlace p1 6 σ = some ()
  · exact xk_St (As := [.int p1, .int 6]) (rest := []) ⟨hx, hb, hml, hown, hts⟩ (t_X7_needPlace l hl0 D cI cZ a A p1 6 σ c3) (va_cwS 2 hts gX7_runOf_X7_needPlace rfl rfl rfl (by decide +kernel) ⟨Nat.le_of_ble_eq_true rfl, Nat.le_of_ble_eq_true rfl⟩) hP hK hD hN hX hS rfl hl.1 rfl (Nat.le_of_ble_eq_true rfl) dX7_runOf_7 ⟨by decide, by decide⟩ htab hlocks
  have h := ik_f c3 h
  obtain ⟨u4, eh, h⟩ := ik_bd h
  refine ik_Sv (As := [.int p1, .int 6]) (rest := []) ⟨hx, hb, hml, hown, hts⟩ (c_X7_needPlace l D cI cZ a A p1 6 σ eh) (va_cwS 2 hts gX7_runOf_X7_needPlace rfl rfl rfl (by decide +kernel) ⟨Nat.le_of_ble_eq_true rfl, Nat.le_of_ble_eq_true rfl⟩) hP hK hD hN hS rfl hl.1 rfl (Nat.le_of_ble_eq_true rfl) dX7_runOf_7 (fun H locs hP hD hS => ?_)
  clear eh
  refine lv_iload_n hx hb dX7_runOf_10 rfl (lv_at hl 3 rfl) ?_
  refine lv_iconst (v := 3) hx hb dX7_runOf_11 (by decide) ?_
  by_cases c5 : tX7_needPlace p2 3 σ = some ()
  · exact xk_St (As := [.int p2, .int 3]) (rest := []) ⟨hx, hb, hml, hown, hts⟩ (t_X7_needPlace l hl0 D cI cZ a A p2 3 σ c5) (va_cwS 2 hts gX7_runOf_X7_needPlace rfl rfl rfl (by decide +kernel) ⟨Nat.le_of_ble_eq_true rfl, Nat.le_of_ble_eq_true rfl⟩) hP hK hD hN hX hS rfl hl.1 rfl (Nat.le_of_ble_eq_true rfl) dX7_runOf_12 ⟨by decide, by decide⟩ htab hlocks
  have h := ik_f c5 h
  obtain ⟨u6, eh, h⟩ := ik_bd h
  refine ik_Sv (As := [.int p2, .int 3]) (rest := []) ⟨hx, hb, hml, hown, hts⟩ (c_X7_needPlace l D cI cZ a A p2 3 σ eh) (va_cwS 2 hts gX7_runOf_X7_needPlace rfl rfl rfl (by decide +kernel) ⟨Nat.le_of_ble_eq_true rfl, Nat.le_of_ble_eq_true rfl⟩) hP hK hD hN hS rfl hl.1 rfl (Nat.le_of_ble_eq_true rfl) dX7_runOf_12 (fun H locs hP hD hS => ?_)
  clear eh
  refine lv_aload_n hx hb dX7_runOf_15 rfl (lv_at hl 0 rfl) ?_
  refine va_get (D := D) (ci := 5) (v := .ref (a 1)) (C := RX7) (T := TX7) (N := 6) hx hb hts in_X7_runOf_X7 hown hK hP 0 rfl rfl 0 (by decide) (hts (.fieldLink RX7 10 "ImageChecker" "tables" "LImageChecker$Tables;") (by decide +kernel)) (fun _ h9 => h9) rfl dX7_runOf_16 ?_
  refine lv_iload_n hx hb dX7_runOf_19 rfl (lv_at hl 1 rfl) ?_
  refine lv_iload_n hx hb dX7_runOf_20 rfl (lv_at hl 2 rfl) ?_
  refine lv_iload_n hx hb dX7_runOf_21 rfl (lv_at hl 3 rfl) ?_
  obtain ⟨v7, eh, h⟩ := ik_bd h
  refine ik_Vi (As := [.int p0, .int p1, .int p2]) (rest := []) ⟨hx, hb, hml, hown, hts⟩ (c_X5_runPart l D cI cZ a A p0 p1 p2 σ _ eh) (cwV 3 hts gX7_runOf_X5_runPart rfl rfl rfl (by decide +kernel) ⟨Nat.le_of_ble_eq_true rfl, Nat.le_of_ble_eq_true rfl⟩) (va_recv hK hP (ci := 3) (q0 := 1) rfl rfl) hP hK hD hN hS rfl hl.1 rfl (Nat.le_of_ble_eq_true rfl) dX7_runOf_22 (fun H locs hP hD hS => ?_)
  clear eh
  cases h
abbrev rm_X7_set : Room := { frames := 2, cells := 0, slots := 0, locals := 43 }
theorem in_X7_set_X7 : ∀ w ∈ wsX70, w ∈ wsX7_set := by decide +kernel
set_option maxHeartbeats 4000000 in
set_option maxRecDepth 100000 in
theorem c_X7_set (l : Launch) (D : va_G) (cI cZ : ClassId) (a : Nat → Nat) (A : Nat → Prop) (p0 : Int32) (p1 : Int32) (p2 : Int32) (σ : ck_S) (σz : ck_S) (h : fX7_set p0 p1 p2 σ = some σz) : Met l yX7_set wsX7_set rm_X7_set (va_Pc [.ref (a 0), .int p0, .int p1, .int p2] (ik_P D [(cI, .int), (cZ, .boolean)] ck_N (ck_W cI cZ a) A σ)) (ik_Qv D (ck_W cI cZ a) A σz) 0 0 A := by
  unfold fX7_set at h
  refine Met.ofW (cc := cX7_set) (maxL := 4) (ret := none) (by decide) rfl ?_
  intro p e s m args below meth c s₁ B hml hv
  obtain ⟨hAr, hP, hK, hD, hN⟩ := hv
  have hx := B.exec
  have hb := B.bytes
  have hr := B.returns
  have hts := atoms_spec (ws := wsX7_set) B.pre
  have hown : s.vm.findClass RX7 = some m.cls := findClass_of_methodNamed B.named
  have hlocks := B.notSynchronized
  have hS : va_S A s.heap s.heap [] := va_S.rf
  have hl := lv_entry ([.ref (a 0), .int p0, .int p1, .int p2]) (n := 4) (Nat.le_of_ble_eq_true rfl)
  rw [show entryFrame m args 4 = entryFrame m ([.ref (a 0), .int p0, .int p1, .int p2] : List Value).toArray 4 from by rw [hAr], lg_entry_eq]
  generalize (lg_sl ([.ref (a 0), .int p0, .int p1, .int p2]) ++ List.replicate (4 - (lg_sl ([.ref (a 0), .int p0, .int p1, .int p2])).length) Slot.unset).toArray = ls at hl ⊢
  have hl : lv_has ls 4 [(0, .ref (a 0)), (1, .int p0), (2, .int p1), (3, .int p2)] := hl
  refine lv_iload_n hx hb dX7_set_0 rfl (lv_at hl 1 rfl) ?_
  obtain ⟨u1, eh, h⟩ := ik_bd h
  refine ik_Sv (As := [.int p0]) (rest := []) ⟨hx, hb, hml, hown, hts⟩ (c_X7_needFile l D cI cZ a A p0 σ eh) (va_cwS 1 hts gX7_set_X7_needFile rfl rfl rfl (by decide +kernel) ⟨Nat.le_of_ble_eq_true rfl, Nat.le_of_ble_eq_true rfl⟩) hP hK hD hN hS rfl hl.1 rfl (Nat.le_of_ble_eq_true rfl) dX7_set_1 (fun H locs hP hD hS => ?_)
  clear eh
  refine lv_iload_n hx hb dX7_set_4 rfl (lv_at hl 2 rfl) ?_
  refine lv_iconst (v := 5) hx hb dX7_set_5 (by decide) ?_
  obtain ⟨u2, eh, h⟩ := ik_bd h
  refine ik_Sv (As := [.int p1, .int 5]) (rest := []) ⟨hx, hb, hml, hown, hts⟩ (c_X7_needPlace l D cI cZ a A p1 5 σ eh) (va_cwS 2 hts gX7_set_X7_needPlace rfl rfl rfl (by decide +kernel) ⟨Nat.le_of_ble_eq_true rfl, Nat.le_of_ble_eq_true rfl⟩) hP hK hD hN hS rfl hl.1 rfl (Nat.le_of_ble_eq_true rfl) dX7_set_6 (fun H locs hP hD hS => ?_)
  clear eh
  refine lv_aload_n hx hb dX7_set_9 rfl (lv_at hl 0 rfl) ?_
  refine va_get (D := D) (ci := 5) (v := .ref (a 1)) (C := RX7) (T := TX7) (N := 6) hx hb hts in_X7_set_X7 hown hK hP 0 rfl rfl 0 (by decide) (hts (.fieldLink RX7 10 "ImageChecker" "tables" "LImageChecker$Tables;") (by decide +kernel)) (fun _ h9 => h9) rfl dX7_set_10 ?_
  refine lv_iload_n hx hb dX7_set_13 rfl (lv_at hl 1 rfl) ?_
  refine lv_iload_n hx hb dX7_set_14 rfl (lv_at hl 2 rfl) ?_
  refine lv_iload_n hx hb dX7_set_15 rfl (lv_at hl 3 rfl) ?_
  obtain ⟨σ3, eh, h⟩ := ik_bd h
  refine ik_Vv (As := [.int p0, .int p1, .int p2]) (rest := []) ⟨hx, hb, hml, hown, hts⟩ (c_X5_putNumber l D cI cZ a A p0 p1 p2 σ _ eh) (cwV 3 hts gX7_set_X5_putNumber rfl rfl rfl (by decide +kernel) ⟨Nat.le_of_ble_eq_true rfl, Nat.le_of_ble_eq_true rfl⟩) (va_recv hK hP (ci := 3) (q0 := 1) rfl rfl) hP hK hD hN hS rfl hl.1 rfl (Nat.le_of_ble_eq_true rfl) dX7_set_16 (fun H locs hP hD hS => ?_)
  clear eh
  exact W.vret hx hb hr (fun t ht hW => ⟨⟨_, rfl, Option.some.inj h, by rw [ht]; exact hP, hD⟩, hS.F ht⟩) hS.2.2 dX7_set_19
abbrev rt_X7_set : Room := { frames := 7, cells := 1, slots := 6, locals := 111 }
set_option maxHeartbeats 4000000 in
set_option maxRecDepth 100000 in
theorem t_X7_set (l : Launch) (hl0 : l.stackTraces = false) (D : va_G) (cI cZ : ClassId) (a : Nat → Nat) (A : Nat → Prop) (p0 : Int32) (p1 : Int32) (p2 : Int32) (σ : ck_S) (h : tX7_set p0 p1 p2 σ = some ()) : vx_Met l yX7_set wsX7_set rt_X7_set (va_Pc [.ref (a 0), .int p0, .int p1, .int p2] (fun U => ik_P D [(cI, .int), (cZ, .boolean)] ck_N (ck_W cI cZ a) A σ U ∧ xk_P A U)) (xk_Qv A) (xk_X D (ck_W cI cZ a) A σ) 1 6 A := by
  unfold tX7_set at h
  refine vx_ofW (cc := cX7_set) (maxL := 4) (ret := none) (by decide) rfl ?_
  intro p e s m args below meth c s₁ B hml htab hv
  obtain ⟨hAr, ⟨hP, hK, hD, hN⟩, hX⟩ := hv
  have hx := B.exec
  have hb := B.bytes
  have hr := B.returns
  have hts := atoms_spec (ws := wsX7_set) B.pre
  have hown : s.vm.findClass RX7 = some m.cls := findClass_of_methodNamed B.named
  have hlocks := B.notSynchronized
  have hS : va_S A s.heap s.heap [] := va_S.rf
  have hl := lv_entry ([.ref (a 0), .int p0, .int p1, .int p2]) (n := 4) (Nat.le_of_ble_eq_true rfl)
  rw [show entryFrame m args 4 = entryFrame m ([.ref (a 0), .int p0, .int p1, .int p2] : List Value).toArray 4 from by rw [hAr], lg_entry_eq]
  generalize (lg_sl ([.ref (a 0), .int p0, .int p1, .int p2]) ++ List.replicate (4 - (lg_sl ([.ref (a 0), .int p0, .int p1, .int p2])).length) Slot.unset).toArray = ls at hl ⊢
  have hl : lv_has ls 4 [(0, .ref (a 0)), (1, .int p0), (2, .int p1), (3, .int p2)] := hl
  refine lv_iload_n hx hb dX7_set_0 rfl (lv_at hl 1 rfl) ?_
  by_cases c1 : tX7_needFile p0 σ = some ()
  · exact xk_St (As := [.int p0]) (rest := []) ⟨hx, hb, hml, hown, hts⟩ (t_X7_needFile l hl0 D cI cZ a A p0 σ c1) (va_cwS 1 hts gX7_set_X7_needFile rfl rfl rfl (by decide +kernel) ⟨Nat.le_of_ble_eq_true rfl, Nat.le_of_ble_eq_true rfl⟩) hP hK hD hN hX hS rfl hl.1 rfl (Nat.le_of_ble_eq_true rfl) dX7_set_1 ⟨by decide, by decide⟩ htab hlocks
  have h := ik_f c1 h
  obtain ⟨u2, eh, h⟩ := ik_bd h
  refine ik_Sv (As := [.int p0]) (rest := []) ⟨hx, hb, hml, hown, hts⟩ (c_X7_needFile l D cI cZ a A p0 σ eh) (va_cwS 1 hts gX7_set_X7_needFile rfl rfl rfl (by decide +kernel) ⟨Nat.le_of_ble_eq_true rfl, Nat.le_of_ble_eq_true rfl⟩) hP hK hD hN hS rfl hl.1 rfl (Nat.le_of_ble_eq_true rfl) dX7_set_1 (fun H locs hP hD hS => ?_)
  clear eh
  refine lv_iload_n hx hb dX7_set_4 rfl (lv_at hl 2 rfl) ?_
  refine lv_iconst (v := 5) hx hb dX7_set_5 (by decide) ?_
  by_cases c3 : tX7_needPlace p1 5 σ = some ()
  · exact xk_St (As := [.int p1, .int 5]) (rest := []) ⟨hx, hb, hml, hown, hts⟩ (t_X7_needPlace l hl0 D cI cZ a A p1 5 σ c3) (va_cwS 2 hts gX7_set_X7_needPlace rfl rfl rfl (by decide +kernel) ⟨Nat.le_of_ble_eq_true rfl, Nat.le_of_ble_eq_true rfl⟩) hP hK hD hN hX hS rfl hl.1 rfl (Nat.le_of_ble_eq_true rfl) dX7_set_6 ⟨by decide, by decide⟩ htab hlocks
  have h := ik_f c3 h
  obtain ⟨u4, eh, h⟩ := ik_bd h
  refine ik_Sv (As := [.int p1, .int 5]) (rest := []) ⟨hx, hb, hml, hown, hts⟩ (c_X7_needPlace l D cI cZ a A p1 5 σ eh) (va_cwS 2 hts gX7_set_X7_needPlace rfl rfl rfl (by decide +kernel) ⟨Nat.le_of_ble_eq_true rfl, Nat.le_of_ble_eq_true rfl⟩) hP hK hD hN hS rfl hl.1 rfl (Nat.le_of_ble_eq_true rfl) dX7_set_6 (fun H locs hP hD hS => ?_)
  clear eh
  refine lv_aload_n hx hb dX7_set_9 rfl (lv_at hl 0 rfl) ?_
  refine va_get (D := D) (ci := 5) (v := .ref (a 1)) (C := RX7) (T := TX7) (N := 6) hx hb hts in_X7_set_X7 hown hK hP 0 rfl rfl 0 (by decide) (hts (.fieldLink RX7 10 "ImageChecker" "tables" "LImageChecker$Tables;") (by decide +kernel)) (fun _ h9 => h9) rfl dX7_set_10 ?_
  refine lv_iload_n hx hb dX7_set_13 rfl (lv_at hl 1 rfl) ?_
  refine lv_iload_n hx hb dX7_set_14 rfl (lv_at hl 2 rfl) ?_
  refine lv_iload_n hx hb dX7_set_15 rfl (lv_at hl 3 rfl) ?_
  obtain ⟨σ5, eh, h⟩ := ik_bd h
  refine ik_Vv (As := [.int p0, .int p1, .int p2]) (rest := []) ⟨hx, hb, hml, hown, hts⟩ (c_X5_putNumber l D cI cZ a A p0 p1 p2 σ _ eh) (cwV 3 hts gX7_set_X5_putNumber rfl rfl rfl (by decide +kernel) ⟨Nat.le_of_ble_eq_true rfl, Nat.le_of_ble_eq_true rfl⟩) (va_recv hK hP (ci := 3) (q0 := 1) rfl rfl) hP hK hD hN hS rfl hl.1 rfl (Nat.le_of_ble_eq_true rfl) dX7_set_16 (fun H locs hP hD hS => ?_)
  clear eh
  cases h
abbrev rm_X7_tell : Room := { frames := 1, cells := 0, slots := 0, locals := 22 }
theorem in_X7_tell_X7 : ∀ w ∈ wsX70, w ∈ wsX7_tell := by decide +kernel
set_option maxHeartbeats 4000000 in
set_option maxRecDepth 100000 in
theorem c_X7_tell (l : Launch) (D : va_G) (cI cZ : ClassId) (a : Nat → Nat) (A : Nat → Prop) (p0 : Int32) (p1 : Int32) (σ : ck_S) (σz : ck_S) (h : fX7_tell p0 p1 σ = some σz) : Met l yX7_tell wsX7_tell rm_X7_tell (va_Pc [.ref (a 0), .int p0, .int p1] (ik_P D [(cI, .int), (cZ, .boolean)] ck_N (ck_W cI cZ a) A σ)) (ik_Qv D (ck_W cI cZ a) A σz) 0 0 A := by
  unfold fX7_tell at h
  refine Met.ofW (cc := cX7_tell) (maxL := 3) (ret := none) (by decide) rfl ?_
  intro p e s m args below meth c s₁ B hml hv
  obtain ⟨hAr, hP, hK, hD, hN⟩ := hv
  have hx := B.exec
  have hb := B.bytes
  have hr := B.returns
  have hts := atoms_spec (ws := wsX7_tell) B.pre
  have hown : s.vm.findClass RX7 = some m.cls := findClass_of_methodNamed B.named
  have hlocks := B.notSynchronized
  have hS : va_S A s.heap s.heap [] := va_S.rf
  have hl := lv_entry ([.ref (a 0), .int p0, .int p1]) (n := 3) (Nat.le_of_ble_eq_true rfl)
  rw [show entryFrame m args 3 = entryFrame m ([.ref (a 0), .int p0, .int p1] : List Value).toArray 3 from by rw [hAr], lg_entry_eq]
  generalize (lg_sl ([.ref (a 0), .int p0, .int p1]) ++ List.replicate (3 - (lg_sl ([.ref (a 0), .int p0, .int p1])).length) Slot.unset).toArray = ls at hl ⊢
  have hl : lv_has ls 3 [(0, .ref (a 0)), (1, .int p0), (2, .int p1)] := hl
  refine lv_iload_n hx hb dX7_tell_0 rfl (lv_at hl 1 rfl) ?_
  refine lv_iconst (v := 3) hx hb dX7_tell_1 (by decide) ?_
  obtain ⟨u1, eh, h⟩ := ik_bd h
  refine ik_Sv (As := [.int p0, .int 3]) (rest := []) ⟨hx, hb, hml, hown, hts⟩ (c_X7_needPlace l D cI cZ a A p0 3 σ eh) (va_cwS 2 hts gX7_tell_X7_needPlace rfl rfl rfl (by decide +kernel) ⟨Nat.le_of_ble_eq_true rfl, Nat.le_of_ble_eq_true rfl⟩) hP hK hD hN hS rfl hl.1 rfl (Nat.le_of_ble_eq_true rfl) dX7_tell_2 (fun H locs hP hD hS => ?_)
  clear eh
  refine lv_aload_n hx hb dX7_tell_5 rfl (lv_at hl 0 rfl) ?_
  refine va_get (D := D) (ci := 5) (v := .ref (a 1)) (C := RX7) (T := TX7) (N := 6) hx hb hts in_X7_tell_X7 hown hK hP 0 rfl rfl 0 (by decide) (hts (.fieldLink RX7 10 "ImageChecker" "tables" "LImageChecker$Tables;") (by decide +kernel)) (fun _ h9 => h9) rfl dX7_tell_6 ?_
  refine lv_iload_n hx hb dX7_tell_9 rfl (lv_at hl 1 rfl) ?_
  refine lv_iload_n hx hb dX7_tell_10 rfl (lv_at hl 2 rfl) ?_
  obtain ⟨σ2, eh, h⟩ := ik_bd h
  refine ik_Vv (As := [.int p0, .int p1]) (rest := []) ⟨hx, hb, hml, hown, hts⟩ (c_X5_putTold l D cI cZ a A p0 p1 σ _ eh) (cwV 2 hts gX7_tell_X5_putTold rfl rfl rfl (by decide +kernel) ⟨Nat.le_of_ble_eq_true rfl, Nat.le_of_ble_eq_true rfl⟩) (va_recv hK hP (ci := 3) (q0 := 1) rfl rfl) hP hK hD hN hS rfl hl.1 rfl (Nat.le_of_ble_eq_true rfl) dX7_tell_11 (fun H locs hP hD hS => ?_)
  clear eh
  exact W.vret hx hb hr (fun t ht hW => ⟨⟨_, rfl, Option.some.inj h, by rw [ht]; exact hP, hD⟩, hS.F ht⟩) hS.2.2 dX7_tell_14
abbrev rt_X7_tell : Room := { frames := 7, cells := 1, slots := 6, locals := 111 }
set_option maxHeartbeats 4000000 in
set_option maxRecDepth 100000 in
theorem t_X7_tell (l : Launch) (hl0 : l.stackTraces = false) (D : va_G) (cI cZ : ClassId) (a : Nat → Nat) (A : Nat → Prop) (p0 : Int32) (p1 : Int32) (σ : ck_S) (h : tX7_tell p0 p1 σ = some ()) : vx_Met l yX7_tell wsX7_tell rt_X7_tell (va_Pc [.ref (a 0), .int p0, .int p1] (fun U => ik_P D [(cI, .int), (cZ, .boolean)] ck_N (ck_W cI cZ a) A σ U ∧ xk_P A U)) (xk_Qv A) (xk_X D (ck_W cI cZ a) A σ) 1 6 A := by
  unfold tX7_tell at h
  refine vx_ofW (cc := cX7_tell) (maxL := 3) (ret := none) (by decide) rfl ?_
  intro p e s m args below meth c s₁ B hml htab hv
  obtain ⟨hAr, ⟨hP, hK, hD, hN⟩, hX⟩ := hv
  have hx := B.exec
  have hb := B.bytes
  have hr := B.returns
  have hts := atoms_spec (ws := wsX7_tell) B.pre
  have hown : s.vm.findClass RX7 = some m.cls := findClass_of_methodNamed B.named
  have hlocks := B.notSynchronized
  have hS : va_S A s.heap s.heap [] := va_S.rf
  have hl := lv_entry ([.ref (a 0), .int p0, .int p1]) (n := 3) (Nat.le_of_ble_eq_true rfl)
  rw [show entryFrame m args 3 = entryFrame m ([.ref (a 0), .int p0, .int p1] : List Value).toArray 3 from by rw [hAr], lg_entry_eq]
  generalize (lg_sl ([.ref (a 0), .int p0, .int p1]) ++ List.replicate (3 - (lg_sl ([.ref (a 0), .int p0, .int p1])).length) Slot.unset).toArray = ls at hl ⊢
  have hl : lv_has ls 3 [(0, .ref (a 0)), (1, .int p0), (2, .int p1)] := hl
  refine lv_iload_n hx hb dX7_tell_0 rfl (lv_at hl 1 rfl) ?_
  refine lv_iconst (v := 3) hx hb dX7_tell_1 (by decide) ?_
  by_cases c1 : tX7_needPlace p0 3 σ = some ()
  · exact xk_St (As := [.int p0, .int 3]) (rest := []) ⟨hx, hb, hml, hown, hts⟩ (t_X7_needPlace l hl0 D cI cZ a A p0 3 σ c1) (va_cwS 2 hts gX7_tell_X7_needPlace rfl rfl rfl (by decide +kernel) ⟨Nat.le_of_ble_eq_true rfl, Nat.le_of_ble_eq_true rfl⟩) hP hK hD hN hX hS rfl hl.1 rfl (Nat.le_of_ble_eq_true rfl) dX7_tell_2 ⟨by decide, by decide⟩ htab hlocks
  have h := ik_f c1 h
  obtain ⟨u2, eh, h⟩ := ik_bd h
  refine ik_Sv (As := [.int p0, .int 3]) (rest := []) ⟨hx, hb, hml, hown, hts⟩ (c_X7_needPlace l D cI cZ a A p0 3 σ eh) (va_cwS 2 hts gX7_tell_X7_needPlace rfl rfl rfl (by decide +kernel) ⟨Nat.le_of_ble_eq_true rfl, Nat.le_of_ble_eq_true rfl⟩) hP hK hD hN hS rfl hl.1 rfl (Nat.le_of_ble_eq_true rfl) dX7_tell_2 (fun H locs hP hD hS => ?_)
  clear eh
  refine lv_aload_n hx hb dX7_tell_5 rfl (lv_at hl 0 rfl) ?_
  refine va_get (D := D) (ci := 5) (v := .ref (a 1)) (C := RX7) (T := TX7) (N := 6) hx hb hts in_X7_tell_X7 hown hK hP 0 rfl rfl 0 (by decide) (hts (.fieldLink RX7 10 "ImageChecker" "tables" "LImageChecker$Tables;") (by decide +kernel)) (fun _ h9 => h9) rfl dX7_tell_6 ?_
  refine lv_iload_n hx hb dX7_tell_9 rfl (lv_at hl 1 rfl) ?_
  refine lv_iload_n hx hb dX7_tell_10 rfl (lv_at hl 2 rfl) ?_
  obtain ⟨σ3, eh, h⟩ := ik_bd h
  refine ik_Vv (As := [.int p0, .int p1]) (rest := []) ⟨hx, hb, hml, hown, hts⟩ (c_X5_putTold l D cI cZ a A p0 p1 σ _ eh) (cwV 2 hts gX7_tell_X5_putTold rfl rfl rfl (by decide +kernel) ⟨Nat.le_of_ble_eq_true rfl, Nat.le_of_ble_eq_true rfl⟩) (va_recv hK hP (ci := 3) (q0 := 1) rfl rfl) hP hK hD hN hS rfl hl.1 rfl (Nat.le_of_ble_eq_true rfl) dX7_tell_11 (fun H locs hP hD hS => ?_)
  clear eh
  cases h
abbrev rm_X7_told : Room := { frames := 1, cells := 0, slots := 0, locals := 21 }
theorem in_X7_told_X7 : ∀ w ∈ wsX70, w ∈ wsX7_told := by decide +kernel
set_option maxHeartbeats 4000000 in
set_option maxRecDepth 100000 in
theorem c_X7_told (l : Launch) (D : va_G) (cI cZ : ClassId) (a : Nat → Nat) (A : Nat → Prop) (p0 : Int32) (σ : ck_S) (rz : Int32) (h : fX7_told p0 σ = some rz) : Met l yX7_told wsX7_told rm_X7_told (va_Pc [.ref (a 0), .int p0] (ik_P D [(cI, .int), (cZ, .boolean)] ck_N (ck_W cI cZ a) A σ)) (ik_Qi D (ck_W cI cZ a) A rz σ) 0 0 A := by
  unfold fX7_told at h
  refine Met.ofW (cc := cX7_told) (maxL := 2) (ret := (some .int)) (by decide) rfl ?_
  intro p e s m args below meth c s₁ B hml hv
  obtain ⟨hAr, hP, hK, hD, hN⟩ := hv
  have hx := B.exec
  have hb := B.bytes
  have hr := B.returns
  have hts := atoms_spec (ws := wsX7_told) B.pre
  have hown : s.vm.findClass RX7 = some m.cls := findClass_of_methodNamed B.named
  have hlocks := B.notSynchronized
  have hS : va_S A s.heap s.heap [] := va_S.rf
  have hl := lv_entry ([.ref (a 0), .int p0]) (n := 2) (Nat.le_of_ble_eq_true rfl)
  rw [show entryFrame m args 2 = entryFrame m ([.ref (a 0), .int p0] : List Value).toArray 2 from by rw [hAr], lg_entry_eq]
  generalize (lg_sl ([.ref (a 0), .int p0]) ++ List.replicate (2 - (lg_sl ([.ref (a 0), .int p0])).length) Slot.unset).toArray = ls at hl ⊢
  have hl : lv_has ls 2 [(0, .ref (a 0)), (1, .int p0)] := hl
  refine lv_iload_n hx hb dX7_told_0 rfl (lv_at hl 1 rfl) ?_
  refine lv_iconst (v := 3) hx hb dX7_told_1 (by decide) ?_
  obtain ⟨u1, eh, h⟩ := ik_bd h
  refine ik_Sv (As := [.int p0, .int 3]) (rest := []) ⟨hx, hb, hml, hown, hts⟩ (c_X7_needPlace l D cI cZ a A p0 3 σ eh) (va_cwS 2 hts gX7_told_X7_needPlace rfl rfl rfl (by decide +kernel) ⟨Nat.le_of_ble_eq_true rfl, Nat.le_of_ble_eq_true rfl⟩) hP hK hD hN hS rfl hl.1 rfl (Nat.le_of_ble_eq_true rfl) dX7_told_2 (fun H locs hP hD hS => ?_)
  clear eh
  refine lv_aload_n hx hb dX7_told_5 rfl (lv_at hl 0 rfl) ?_
  refine va_get (D := D) (ci := 5) (v := .ref (a 1)) (C := RX7) (T := TX7) (N := 6) hx hb hts in_X7_told_X7 hown hK hP 0 rfl rfl 0 (by decide) (hts (.fieldLink RX7 10 "ImageChecker" "tables" "LImageChecker$Tables;") (by decide +kernel)) (fun _ h9 => h9) rfl dX7_told_6 ?_
  refine lv_iload_n hx hb dX7_told_9 rfl (lv_at hl 1 rfl) ?_
  obtain ⟨v2, eh, h⟩ := ik_bd h
  refine ik_Vi (As := [.int p0]) (rest := []) ⟨hx, hb, hml, hown, hts⟩ (c_X5_toldNumber l D cI cZ a A p0 σ _ eh) (cwV 1 hts gX7_told_X5_toldNumber rfl rfl rfl (by decide +kernel) ⟨Nat.le_of_ble_eq_true rfl, Nat.le_of_ble_eq_true rfl⟩) (va_recv hK hP (ci := 3) (q0 := 1) rfl rfl) hP hK hD hN hS rfl hl.1 rfl (Nat.le_of_ble_eq_true rfl) dX7_told_10 (fun H locs hP hD hS => ?_)
  clear eh
  exact W.iret hx hb hr (fun t ht hW => ⟨⟨_, _, rfl, ⟨Option.some.inj h, rfl⟩, by rw [ht]; exact hP, hD⟩, hS.F ht⟩) hS.2.2 dX7_told_13
abbrev rt_X7_told : Room := { frames := 7, cells := 1, slots := 6, locals := 111 }
set_option maxHeartbeats 4000000 in
set_option maxRecDepth 100000 in
theorem t_X7_told (l : Launch) (hl0 : l.stackTraces = false) (D : va_G) (cI cZ : ClassId) (a : Nat → Nat) (A : Nat → Prop) (p0 : Int32) (σ : ck_S) (h : tX7_told p0 σ = some ()) : vx_Met l yX7_told wsX7_told rt_X7_told (va_Pc [.ref (a 0), .int p0] (fun U => ik_P D [(cI, .int), (cZ, .boolean)] ck_N (ck_W cI cZ a) A σ U ∧ xk_P A U)) (xk_Qi A) (xk_X D (ck_W cI cZ a) A σ) 1 6 A := by
  unfold tX7_told at h
  refine vx_ofW (cc := cX7_told) (maxL := 2) (ret := (some .int)) (by decide) rfl ?_
  intro p e s m args below meth c s₁ B hml htab hv
  obtain ⟨hAr, ⟨hP, hK, hD, hN⟩, hX⟩ := hv
  have hx := B.exec
  have hb := B.bytes
  have hr := B.returns
  have hts := atoms_spec (ws := wsX7_told) B.pre
  have hown : s.vm.findClass RX7 = some m.cls := findClass_of_methodNamed B.named
  have hlocks := B.notSynchronized
  have hS : va_S A s.heap s.heap [] := va_S.rf
  have hl := lv_entry ([.ref (a 0), .int p0]) (n := 2) (Nat.le_of_ble_eq_true rfl)
  rw [show entryFrame m args 2 = entryFrame m ([.ref (a 0), .int p0] : List Value).toArray 2 from by rw [hAr], lg_entry_eq]
  generalize (lg_sl ([.ref (a 0), .int p0]) ++ List.replicate (2 - (lg_sl ([.ref (a 0), .int p0])).length) Slot.unset).toArray = ls at hl ⊢
  have hl : lv_has ls 2 [(0, .ref (a 0)), (1, .int p0)] := hl
  refine lv_iload_n hx hb dX7_told_0 rfl (lv_at hl 1 rfl) ?_
  refine lv_iconst (v := 3) hx hb dX7_told_1 (by decide) ?_
  by_cases c1 : tX7_needPlace p0 3 σ = some ()
  · exact xk_St (As := [.int p0, .int 3]) (rest := []) ⟨hx, hb, hml, hown, hts⟩ (t_X7_needPlace l hl0 D cI cZ a A p0 3 σ c1) (va_cwS 2 hts gX7_told_X7_needPlace rfl rfl rfl (by decide +kernel) ⟨Nat.le_of_ble_eq_true rfl, Nat.le_of_ble_eq_true rfl⟩) hP hK hD hN hX hS rfl hl.1 rfl (Nat.le_of_ble_eq_true rfl) dX7_told_2 ⟨by decide, by decide⟩ htab hlocks
  have h := ik_f c1 h
  obtain ⟨u2, eh, h⟩ := ik_bd h
  refine ik_Sv (As := [.int p0, .int 3]) (rest := []) ⟨hx, hb, hml, hown, hts⟩ (c_X7_needPlace l D cI cZ a A p0 3 σ eh) (va_cwS 2 hts gX7_told_X7_needPlace rfl rfl rfl (by decide +kernel) ⟨Nat.le_of_ble_eq_true rfl, Nat.le_of_ble_eq_true rfl⟩) hP hK hD hN hS rfl hl.1 rfl (Nat.le_of_ble_eq_true rfl) dX7_told_2 (fun H locs hP hD hS => ?_)
  clear eh
  refine lv_aload_n hx hb dX7_told_5 rfl (lv_at hl 0 rfl) ?_
  refine va_get (D := D) (ci := 5) (v := .ref (a 1)) (C := RX7) (T := TX7) (N := 6) hx hb hts in_X7_told_X7 hown hK hP 0 rfl rfl 0 (by decide) (hts (.fieldLink RX7 10 "ImageChecker" "tables" "LImageChecker$Tables;") (by decide +kernel)) (fun _ h9 => h9) rfl dX7_told_6 ?_
  refine lv_iload_n hx hb dX7_told_9 rfl (lv_at hl 1 rfl) ?_
  obtain ⟨v3, eh, h⟩ := ik_bd h
  refine ik_Vi (As := [.int p0]) (rest := []) ⟨hx, hb, hml, hown, hts⟩ (c_X5_toldNumber l D cI cZ a A p0 σ _ eh) (cwV 1 hts gX7_told_X5_toldNumber rfl rfl rfl (by decide +kernel) ⟨Nat.le_of_ble_eq_true rfl, Nat.le_of_ble_eq_true rfl⟩) (va_recv hK hP (ci := 3) (q0 := 1) rfl rfl) hP hK hD hN hS rfl hl.1 rfl (Nat.le_of_ble_eq_true rfl) dX7_told_10 (fun H locs hP hD hS => ?_)
  clear eh
  cases h
