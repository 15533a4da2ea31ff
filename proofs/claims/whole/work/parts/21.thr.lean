abbrev rm_X7_needFile : Room := { frames := 1, cells := 0, slots := 0, locals := 20 }
set_option maxHeartbeats 4000000 in
set_option maxRecDepth 100000 in
theorem c_X7_needFile (l : Launch) (D : va_G) (cI cZ : ClassId) (a : Nat → Nat) (A : Nat → Prop) (p0 : Int32) (σ : ck_S) (h : fX7_needFile p0 = some ()) : Met l yX7_needFile wsX7_needFile rm_X7_needFile (va_Pc [.int p0] (ik_P D [(cI, .int), (cZ, .boolean)] ck_N (ck_W cI cZ a) A σ)) (ik_Qv D (ck_W cI cZ a) A σ) 0 0 A := by
  unfold fX7_needFile at h
  refine Met.ofW (cc := cX7_needFile) (maxL := 1) (ret := none) (by decide) rfl ?_
  intro p e s m args below meth c s₁ B hml hv
  obtain ⟨hAr, hP, hK, hD, hN⟩ := hv
  have hx := B.exec
  have hb := B.bytes
  have hr := B.returns
  have hts := atoms_spec (ws := wsX7_needFile) B.pre
  have hown : s.vm.findClass RX7 = some m.cls := findClass_of_methodNamed B.named
  have hlocks := B.notSynchronized
  have hS : va_S A s.heap s.heap [] := va_S.rf
  have hl := lv_entry ([.int p0]) (n := 1) (Nat.le_of_ble_eq_true rfl)
  rw [show entryFrame m args 1 = entryFrame m ([.int p0] : List Value).toArray 1 from by rw [hAr], lg_entry_eq]
  generalize (lg_sl ([.int p0]) ++ List.replicate (1 - (lg_sl ([.int p0])).length) Slot.unset).toArray = ls at hl ⊢
  have hl : lv_has ls 1 [(0, .int p0)] := hl
  refine lv_iload_n hx hb dX7_needFile_0 rfl (lv_at hl 0 rfl) ?_
  obtain ⟨v1, eh, h⟩ := ik_bd h
  refine ik_Si (As := [.int p0]) (rest := []) ⟨hx, hb, hml, hown, hts⟩ (c_X7_isFile l D cI cZ a A p0 σ _ eh) (va_cwS 1 hts gX7_needFile_X7_isFile rfl rfl rfl (by decide +kernel) ⟨Nat.le_of_ble_eq_true rfl, Nat.le_of_ble_eq_true rfl⟩) hP hK hD hN hS rfl hl.1 rfl (Nat.le_of_ble_eq_true rfl) dX7_needFile_1 (fun H locs hP hD hS => ?_)
  clear eh
  refine lv_if_ne (tgt := 17) hx hb dX7_needFile_4 (by decide) (fun c2 => ?_) (fun c2 => ?_)
  · have h := ik_f c2 h
    exact W.vret hx hb hr (fun t ht hW => ⟨⟨_, rfl, rfl, by rw [ht]; exact hP, hD⟩, hS.F ht⟩) hS.2.2 dX7_needFile_17
  · have h := ik_t c2 h
    cases h
abbrev rt_X7_needFile : Room := { frames := 6, cells := 1, slots := 6, locals := 90 }
set_option maxHeartbeats 4000000 in
set_option maxRecDepth 100000 in
theorem t_X7_needFile (l : Launch) (hl0 : l.stackTraces = false) (D : va_G) (cI cZ : ClassId) (a : Nat → Nat) (A : Nat → Prop) (p0 : Int32) (σ : ck_S) (h : tX7_needFile p0 σ = some ()) : vx_Met l yX7_needFile wsX7_needFile rt_X7_needFile (va_Pc [.int p0] (fun U => ik_P D [(cI, .int), (cZ, .boolean)] ck_N (ck_W cI cZ a) A σ U ∧ xk_P A U)) (xk_Qv A) (xk_X D (ck_W cI cZ a) A σ) 1 6 A := by
  unfold tX7_needFile at h
  refine vx_ofW (cc := cX7_needFile) (maxL := 1) (ret := none) (by decide) rfl ?_
  intro p e s m args below meth c s₁ B hml htab hv
  obtain ⟨hAr, ⟨hP, hK, hD, hN⟩, hX⟩ := hv
  have hx := B.exec
  have hb := B.bytes
  have hr := B.returns
  have hts := atoms_spec (ws := wsX7_needFile) B.pre
  have hown : s.vm.findClass RX7 = some m.cls := findClass_of_methodNamed B.named
  have hlocks := B.notSynchronized
  have hS : va_S A s.heap s.heap [] := va_S.rf
  have hl := lv_entry ([.int p0]) (n := 1) (Nat.le_of_ble_eq_true rfl)
  rw [show entryFrame m args 1 = entryFrame m ([.int p0] : List Value).toArray 1 from by rw [hAr], lg_entry_eq]
  generalize (lg_sl ([.int p0]) ++ List.replicate (1 - (lg_sl ([.int p0])).length) Slot.unset).toArray = ls at hl ⊢
  have hl : lv_has ls 1 [(0, .int p0)] := hl
  refine lv_iload_n hx hb dX7_needFile_0 rfl (lv_at hl 0 rfl) ?_
  obtain ⟨v1, eh, h⟩ := ik_bd h
  refine ik_Si (As := [.int p0]) (rest := []) ⟨hx, hb, hml, hown, hts⟩ (c_X7_isFile l D cI cZ a A p0 σ _ eh) (va_cwS 1 hts gX7_needFile_X7_isFile rfl rfl rfl (by decide +kernel) ⟨Nat.le_of_ble_eq_true rfl, Nat.le_of_ble_eq_true rfl⟩) hP hK hD hN hS rfl hl.1 rfl (Nat.le_of_ble_eq_true rfl) dX7_needFile_1 (fun H locs hP hD hS => ?_)
  clear eh
  refine lv_if_ne (tgt := 17) hx hb dX7_needFile_4 (by decide) (fun c2 => ?_) (fun c2 => ?_)
  · have h := ik_f c2 h
    cases h
  · have h := ik_t c2 h
    exact vx_throwS (own := RX7) (cls := xk_E) (text := "there is no such file") (names := xk_Ns) (A := A) hx hb hl0 hown (by decide +kernel) (by decide +kernel) (hts (.classLink RX7 141 xk_E) (by decide +kernel)) (hts (.initialized xk_E) (by decide +kernel)) hX.2.2.2.1.choose_spec (vx_hat (B := xk_B) (fun w hw => hts w (List.mem_cons_of_mem _ (List.mem_append_right _ hw))) xk_bad hX.2.2.1.use) (by decide +kernel) hX.1 hX.2.1 hS (hl.1.trans hml.symm) dX7_needFile_7 dX7_needFile_10 dX7_needFile_11 dX7_needFile_13 dX7_needFile_16 (fun x hx => (htab x hx).elim) (by decide) (Nat.le_of_ble_eq_true rfl) (by decide) (by decide) hlocks (xk_thrown hP hD hS) hS.2.2 (by decide) (by decide)
abbrev rm_X7_needPlace : Room := { frames := 0, cells := 0, slots := 0, locals := 0 }
set_option maxHeartbeats 4000000 in
set_option maxRecDepth 100000 in
theorem c_X7_needPlace (l : Launch) (D : va_G) (cI cZ : ClassId) (a : Nat → Nat) (A : Nat → Prop) (p0 : Int32) (p1 : Int32) (σ : ck_S) (h : fX7_needPlace p0 p1 = some ()) : Met l yX7_needPlace wsX7_needPlace rm_X7_needPlace (va_Pc [.int p0, .int p1] (ik_P D [(cI, .int), (cZ, .boolean)] ck_N (ck_W cI cZ a) A σ)) (ik_Qv D (ck_W cI cZ a) A σ) 0 0 A := by
  unfold fX7_needPlace at h
  refine Met.ofW (cc := cX7_needPlace) (maxL := 2) (ret := none) (by decide) rfl ?_
  intro p e s m args below meth c s₁ B hml hv
  obtain ⟨hAr, hP, hK, hD, hN⟩ := hv
  have hx := B.exec
  have hb := B.bytes
  have hr := B.returns
  have hts := atoms_spec (ws := wsX7_needPlace) B.pre
  have hown : s.vm.findClass RX7 = some m.cls := findClass_of_methodNamed B.named
  have hlocks := B.notSynchronized
  have hS : va_S A s.heap s.heap [] := va_S.rf
  have hl := lv_entry ([.int p0, .int p1]) (n := 2) (Nat.le_of_ble_eq_true rfl)
  rw [show entryFrame m args 2 = entryFrame m ([.int p0, .int p1] : List Value).toArray 2 from by rw [hAr], lg_entry_eq]
  generalize (lg_sl ([.int p0, .int p1]) ++ List.replicate (2 - (lg_sl ([.int p0, .int p1])).length) Slot.unset).toArray = ls at hl ⊢
  have hl : lv_has ls 2 [(0, .int p0), (1, .int p1)] := hl
  refine lv_iload_n hx hb dX7_needPlace_0 rfl (lv_at hl 0 rfl) ?_
  refine lv_if_lt (tgt := 9) hx hb dX7_needPlace_1 (by decide) (fun c1 => ?_) (fun c1 => ?_)
  · have h := ik_t c1 h
    cases h
  · have h := ik_f c1 h
    refine lv_iload_n hx hb dX7_needPlace_4 rfl (lv_at hl 0 rfl) ?_
    refine lv_iload_n hx hb dX7_needPlace_5 rfl (lv_at hl 1 rfl) ?_
    refine lv_icmp_lt (tgt := 19) hx hb dX7_needPlace_6 (by decide) (fun c2 => ?_) (fun c2 => ?_)
    · have h := ik_t c2 h
      exact W.vret hx hb hr (fun t ht hW => ⟨⟨_, rfl, rfl, by rw [ht]; exact hP, hD⟩, hS.F ht⟩) hS.2.2 dX7_needPlace_19
    · have h := ik_f c2 h
      cases h
abbrev rt_X7_needPlace : Room := { frames := 6, cells := 1, slots := 6, locals := 90 }
set_option maxHeartbeats 4000000 in
set_option maxRecDepth 100000 in
theorem t_X7_needPlace (l : Launch) (hl0 : l.stackTraces = false) (D : va_G) (cI cZ : ClassId) (a : Nat → Nat) (A : Nat → Prop) (p0 : Int32) (p1 : Int32) (σ : ck_S) (h : tX7_needPlace p0 p1 σ = some ()) : vx_Met l yX7_needPlace wsX7_needPlace rt_X7_needPlace (va_Pc [.int p0, .int p1] (fun U => ik_P D [(cI, .int), (cZ, .boolean)] ck_N (ck_W cI cZ a) A σ U ∧ xk_P A U)) (xk_Qv A) (xk_X D (ck_W cI cZ a) A σ) 1 6 A := by
  unfold tX7_needPlace at h
  refine vx_ofW (cc := cX7_needPlace) (maxL := 2) (ret := none) (by decide) rfl ?_
  intro p e s m args below meth c s₁ B hml htab hv
  obtain ⟨hAr, ⟨hP, hK, hD, hN⟩, hX⟩ := hv
  have hx := B.exec
  have hb := B.bytes
  have hr := B.returns
  have hts := atoms_spec (ws := wsX7_needPlace) B.pre
  have hown : s.vm.findClass RX7 = some m.cls := findClass_of_methodNamed B.named
  have hlocks := B.notSynchronized
  have hS : va_S A s.heap s.heap [] := va_S.rf
  have hl := lv_entry ([.int p0, .int p1]) (n := 2) (Nat.le_of_ble_eq_true rfl)
  rw [show entryFrame m args 2 = entryFrame m ([.int p0, .int p1] : List Value).toArray 2 from by rw [hAr], lg_entry_eq]
  generalize (lg_sl ([.int p0, .int p1]) ++ List.replicate (2 - (lg_sl ([.int p0, .int p1])).length) Slot.unset).toArray = ls at hl ⊢
  have hl : lv_has ls 2 [(0, .int p0), (1, .int p1)] := hl
  refine lv_iload_n hx hb dX7_needPlace_0 rfl (lv_at hl 0 rfl) ?_
  refine lv_if_lt (tgt := 9) hx hb dX7_needPlace_1 (by decide) (fun c1 => ?_) (fun c1 => ?_)
  · have h := ik_t c1 h
    exact vx_throwS (own := RX7) (cls := xk_E) (text := "there is no such place") (names := xk_Ns) (A := A) hx hb hl0 hown (by decide +kernel) (by decide +kernel) (hts (.classLink RX7 141 xk_E) (by decide +kernel)) (hts (.initialized xk_E) (by decide +kernel)) hX.2.2.2.2.1.choose_spec (vx_hat (B := xk_B) (fun w hw => hts w (List.mem_cons_of_mem _ (List.mem_append_right _ hw))) xk_bad hX.2.2.1.use) (by decide +kernel) hX.1 hX.2.1 hS (hl.1.trans hml.symm) dX7_needPlace_9 dX7_needPlace_12 dX7_needPlace_13 dX7_needPlace_15 dX7_needPlace_18 (fun x hx => (htab x hx).elim) (by decide) (Nat.le_of_ble_eq_true rfl) (by decide) (by decide) hlocks (xk_thrown hP hD hS) hS.2.2 (by decide) (by decide)
  · have h := ik_f c1 h
    refine lv_iload_n hx hb dX7_needPlace_4 rfl (lv_at hl 0 rfl) ?_
    refine lv_iload_n hx hb dX7_needPlace_5 rfl (lv_at hl 1 rfl) ?_
    refine lv_icmp_lt (tgt := 19) hx hb dX7_needPlace_6 (by decide) (fun c2 => ?_) (fun c2 => ?_)
    · have h := ik_t c2 h
      cases h
    · have h := ik_f c2 h
      exact vx_throwS (own := RX7) (cls := xk_E) (text := "there is no such place") (names := xk_Ns) (A := A) hx hb hl0 hown (by decide +kernel) (by decide +kernel) (hts (.classLink RX7 141 xk_E) (by decide +kernel)) (hts (.initialized xk_E) (by decide +kernel)) hX.2.2.2.2.1.choose_spec (vx_hat (B := xk_B) (fun w hw => hts w (List.mem_cons_of_mem _ (List.mem_append_right _ hw))) xk_bad hX.2.2.1.use) (by decide +kernel) hX.1 hX.2.1 hS (hl.1.trans hml.symm) dX7_needPlace_9 dX7_needPlace_12 dX7_needPlace_13 dX7_needPlace_15 dX7_needPlace_18 (fun x hx => (htab x hx).elim) (by decide) (Nat.le_of_ble_eq_true rfl) (by decide) (by decide) hlocks (xk_thrown hP hD hS) hS.2.2 (by decide) (by decide)
abbrev rm_X7_about : Room := { frames := 2, cells := 0, slots := 0, locals := 42 }
theorem in_X7_about_X7 : ∀ w ∈ wsX70, w ∈ wsX7_about := by decide +kernel
set_option maxHeartbeats 4000000 in
set_option maxRecDepth 100000 in
theorem c_X7_about (l : Launch) (D : va_G) (cI cZ : ClassId) (a : Nat → Nat) (A : Nat → Prop) (p0 : Int32) (p1 : Int32) (σ : ck_S) (rz : Int32) (h : fX7_about p0 p1 σ = some rz) : Met l yX7_about wsX7_about rm_X7_about (va_Pc [.ref (a 0), .int p0, .int p1] (ik_P D [(cI, .int), (cZ, .boolean)] ck_N (ck_W cI cZ a) A σ)) (ik_Qi D (ck_W cI cZ a) A rz σ) 0 0 A := by
  unfold fX7_about at h
  refine Met.ofW (cc := cX7_about) (maxL := 3) (ret := (some .int)) (by decide) rfl ?_
  intro p e s m args below meth c s₁ B hml hv
  obtain ⟨hAr, hP, hK, hD, hN⟩ := hv
  have hx := B.exec
  have hb := B.bytes
  have hr := B.returns
  have hts := atoms_spec (ws := wsX7_about) B.pre
  have hown : s.vm.findClass RX7 = some m.cls := findClass_of_methodNamed B.named
  have hlocks := B.notSynchronized
  have hS : va_S A s.heap s.heap [] := va_S.rf
  have hl := lv_entry ([.ref (a 0), .int p0, .int p1]) (n := 3) (Nat.le_of_ble_eq_true rfl)
  rw [show entryFrame m args 3 = entryFrame m ([.ref (a 0), .int p0, .int p1] : List Value).toArray 3 from by rw [hAr], lg_entry_eq]
  generalize (lg_sl ([.ref (a 0), .int p0, .int p1]) ++ List.replicate (3 - (lg_sl ([.ref (a 0), .int p0, .int p1])).length) Slot.unset).toArray = ls at hl ⊢
  have hl : lv_has ls 3 [(0, .ref (a 0)), (1, .int p0), (2, .int p1)] := hl
  refine lv_iload_n hx hb dX7_about_0 rfl (lv_at hl 1 rfl) ?_
  obtain ⟨u1, eh, h⟩ := ik_bd h
  refine ik_Sv (As := [.int p0]) (rest := []) ⟨hx, hb, hml, hown, hts⟩ (c_X7_needFile l D cI cZ a A p0 σ eh) (va_cwS 1 hts gX7_about_X7_needFile rfl rfl rfl (by decide +kernel) ⟨Nat.le_of_ble_eq_true rfl, Nat.le_of_ble_eq_true rfl⟩) hP hK hD hN hS rfl hl.1 rfl (Nat.le_of_ble_eq_true rfl) dX7_about_1 (fun H locs hP hD hS => ?_)
  clear eh
  refine lv_iload_n hx hb dX7_about_4 rfl (lv_at hl 2 rfl) ?_
  refine lv_iconst (v := 5) hx hb dX7_about_5 (by decide) ?_
  obtain ⟨u2, eh, h⟩ := ik_bd h
  refine ik_Sv (As := [.int p1, .int 5]) (rest := []) ⟨hx, hb, hml, hown, hts⟩ (c_X7_needPlace l D cI cZ a A p1 5 σ eh) (va_cwS 2 hts gX7_about_X7_needPlace rfl rfl rfl (by decide +kernel) ⟨Nat.le_of_ble_eq_true rfl, Nat.le_of_ble_eq_true rfl⟩) hP hK hD hN hS rfl hl.1 rfl (Nat.le_of_ble_eq_true rfl) dX7_about_6 (fun H locs hP hD hS => ?_)
  clear eh
  refine lv_aload_n hx hb dX7_about_9 rfl (lv_at hl 0 rfl) ?_
  refine va_get (D := D) (ci := 5) (v := .ref (a 1)) (C := RX7) (T := TX7) (N := 6) hx hb hts in_X7_about_X7 hown hK hP 0 rfl rfl 0 (by decide) (hts (.fieldLink RX7 10 "ImageChecker" "tables" "LImageChecker$Tables;") (by decide +kernel)) (fun _ h9 => h9) rfl dX7_about_10 ?_
  refine lv_iload_n hx hb dX7_about_13 rfl (lv_at hl 1 rfl) ?_
  refine lv_iload_n hx hb dX7_about_14 rfl (lv_at hl 2 rfl) ?_
  obtain ⟨v3, eh, h⟩ := ik_bd h
  refine ik_Vi (As := [.int p0, .int p1]) (rest := []) ⟨hx, hb, hml, hown, hts⟩ (c_X5_number l D cI cZ a A p0 p1 σ _ eh) (cwV 2 hts gX7_about_X5_number rfl rfl rfl (by decide +kernel) ⟨Nat.le_of_ble_eq_true rfl, Nat.le_of_ble_eq_true rfl⟩) (va_recv hK hP (ci := 3) (q0 := 1) rfl rfl) hP hK hD hN hS rfl hl.1 rfl (Nat.le_of_ble_eq_true rfl) dX7_about_15 (fun H locs hP hD hS => ?_)
  clear eh
  exact W.iret hx hb hr (fun t ht hW => ⟨⟨_, _, rfl, ⟨Option.some.inj h, rfl⟩, by rw [ht]; exact hP, hD⟩, hS.F ht⟩) hS.2.2 dX7_about_18
abbrev rt_X7_about : Room := { frames := 7, cells := 1, slots := 6, locals := 111 }
set_option maxHeartbeats 4000000 in
set_option maxRecDepth 100000 in
theorem t_X7_about (l : Launch) (hl0 : l.stackTraces = false) (D : va_G) (cI cZ : ClassId) (a : Nat → Nat) (A : Nat → Prop) (p0 : Int32) (p1 : Int32) (σ : ck_S) (h : tX7_about p0 p1 σ = some ()) : vx_Met l yX7_about wsX7_about rt_X7_about (va_Pc [.ref (a 0), .int p0, .int p1] (fun U => ik_P D [(cI, .int), (cZ, .boolean)] ck_N (ck_W cI cZ a) A σ U ∧ xk_P A U)) (xk_Qi A) (xk_X D (ck_W cI cZ a) A σ) 1 6 A := by
  unfold tX7_about at h
  refine vx_ofW (cc := cX7_about) (maxL := 3) (ret := (some .int)) (by decide) rfl ?_
  intro p e s m args below meth c s₁ B hml htab hv
  obtain ⟨hAr, ⟨hP, hK, hD, hN⟩, hX⟩ := hv
  have hx := B.exec
  have hb := B.bytes
  have hr := B.returns
  have hts := atoms_spec (ws := wsX7_about) B.pre
  have hown : s.vm.findClass RX7 = some m.cls := findClass_of_methodNamed B.named
  have hlocks := B.notSynchronized
  have hS : va_S A s.heap s.heap [] := va_S.rf
  have hl := lv_entry ([.ref (a 0), .int p0, .int p1]) (n := 3) (Nat.le_of_ble_eq_true rfl)
  rw [show entryFrame m args 3 = entryFrame m ([.ref (a 0), .int p0, .int p1] : List Value).toArray 3 from by rw [hAr], lg_entry_eq]
  generalize (lg_sl ([.ref (a 0), .int p0, .int p1]) ++ List.replicate (3 - (lg_sl ([.ref (a 0), .int p0, .int p1])).length) Slot.unset).toArray = ls at hl ⊢
  have hl : lv_has ls 3 [(0, .ref (a 0)), (1, .int p0), (2, .int p1)] := hl
  refine lv_iload_n hx hb dX7_about_0 rfl (lv_at hl 1 rfl) ?_
  by_cases c1 : tX7_needFile p0 σ = some ()
  · exact xk_St (As := [.int p0]) (rest := []) ⟨hx, hb, hml, hown, hts⟩ (t_X7_needFile l hl0 D cI cZ a A p0 σ c1) (va_cwS 1 hts gX7_about_X7_needFile rfl rfl rfl (by decide +kernel) ⟨Nat.le_of_ble_eq_true rfl, Nat.le_of_ble_eq_true rfl⟩) hP hK hD hN hX hS rfl hl.1 rfl (Nat.le_of_ble_eq_true rfl) dX7_about_1 ⟨by decide, by decide⟩ htab hlocks
  have h := ik_f c1 h
  obtain ⟨u2, eh, h⟩ := ik_bd h
  refine ik_Sv (As := [.int p0]) (rest := []) ⟨hx, hb, hml, hown, hts⟩ (c_X7_needFile l D cI cZ a A p0 σ eh) (va_cwS 1 hts gX7_about_X7_needFile rfl rfl rfl (by decide +kernel) ⟨Nat.le_of_ble_eq_true rfl, Nat.le_of_ble_eq_true rfl⟩) hP hK hD hN hS rfl hl.1 rfl (Nat.le_of_ble_eq_true rfl) dX7_about_1 (fun H locs hP hD hS => ?_)
  clear eh
  refine lv_iload_n hx hb dX7_about_4 rfl (lv_at hl 2 rfl) ?_
  refine lv_iconst (v := 5) hx hb dX7_about_5 (by decide) ?_
  by_cases c3 : tX7_needPlace p1 5 σ = some ()
  · exact xk_St (As := [.int p1, .int 5]) (rest := []) ⟨hx, hb, hml, hown, hts⟩ (t_X7_needPlace l hl0 D cI cZ a A p1 5 σ c3) (va_cwS 2 hts gX7_about_X7_needPlace rfl rfl rfl (by decide +kernel) ⟨Nat.le_of_ble_eq_true rfl, Nat.le_of_ble_eq_true rfl⟩) hP hK hD hN hX hS rfl hl.1 rfl (Nat.le_of_ble_eq_true rfl) dX7_about_6 ⟨by decide, by decide⟩ htab hlocks
  have h := ik_f c3 h
  obtain ⟨u4, eh, h⟩ := ik_bd h
  refine ik_Sv (As := [.int p1, .int 5]) (rest := []) ⟨hx, hb, hml, hown, hts⟩ (c_X7_needPlace l D cI cZ a A p1 5 σ eh) (va_cwS 2 hts gX7_about_X7_needPlace rfl rfl rfl (by decide +kernel) ⟨Nat.le_of_ble_eq_true rfl, Nat.le_of_ble_eq_true rfl⟩) hP hK hD hN hS rfl hl.1 rfl (Nat.le_of_ble_eq_true rfl) dX7_about_6 (fun H locs hP hD hS => ?_)
  clear eh
  refine lv_aload_n hx hb dX7_about_9 rfl (lv_at hl 0 rfl) ?_
  refine va_get (D := D) (ci := 5) (v := .ref (a 1)) (C := RX7) (T := TX7) (N := 6) hx hb hts in_X7_about_X7 hown hK hP 0 rfl rfl 0 (by decide) (hts (.fieldLink RX7 10 "ImageChecker" "tables" "LImageChecker$Tables;") (by decide +kernel)) (fun _ h9 => h9) rfl dX7_about_10 ?_
  refine lv_iload_n hx hb dX7_about_13 rfl (lv_at hl 1 rfl) ?_
  refine lv_iload_n hx hb dX7_about_14 rfl (lv_at hl 2 rfl) ?_
  obtain ⟨v5, eh, h⟩ := ik_bd h
  refine ik_Vi (As := [.int p0, .int p1]) (rest := []) ⟨hx, hb, hml, hown, hts⟩ (c_X5_number l D cI cZ a A p0 p1 σ _ eh) (cwV 2 hts gX7_about_X5_number rfl rfl rfl (by decide +kernel) ⟨Nat.le_of_ble_eq_true rfl, Nat.le_of_ble_eq_true rfl⟩) (va_recv hK hP (ci := 3) (q0 := 1) rfl rfl) hP hK hD hN hS rfl hl.1 rfl (Nat.le_of_ble_eq_true rfl) dX7_about_15 (fun H locs hP hD hS => ?_)
  clear eh
  cases h
abbrev rm_X7_needBit : Room := { frames := 1, cells := 0, slots := 0, locals := 20 }
set_option maxHeartbeats 4000000 in
set_option maxRecDepth 100000 in
theorem c_X7_needBit (l : Launch) (D : va_G) (cI cZ : ClassId) (a : Nat → Nat) (A : Nat → Prop) (p0 : Int32) (p1 : Int32) (σ : ck_S) (h : fX7_needBit p0 p1 = some ()) : Met l yX7_needBit wsX7_needBit rm_X7_needBit (va_Pc [.int p0, .int p1] (ik_P D [(cI, .int), (cZ, .boolean)] ck_N (ck_W cI cZ a) A σ)) (ik_Qv D (ck_W cI cZ a) A σ) 0 0 A := by
  unfold fX7_needBit at h
  refine Met.ofW (cc := cX7_needBit) (maxL := 4) (ret := none) (by decide) rfl ?_
  intro p e s m args below meth c s₁ B hml hv
  obtain ⟨hAr, hP, hK, hD, hN⟩ := hv
  have hx := B.exec
  have hb := B.bytes
  have hr := B.returns
  have hts := atoms_spec (ws := wsX7_needBit) B.pre
  have hown : s.vm.findClass RX7 = some m.cls := findClass_of_methodNamed B.named
  have hlocks := B.notSynchronized
  have hS : va_S A s.heap s.heap [] := va_S.rf
  have hl := lv_entry ([.int p0, .int p1]) (n := 4) (Nat.le_of_ble_eq_true rfl)
  rw [show entryFrame m args 4 = entryFrame m ([.int p0, .int p1] : List Value).toArray 4 from by rw [hAr], lg_entry_eq]
  generalize (lg_sl ([.int p0, .int p1]) ++ List.replicate (4 - (lg_sl ([.int p0, .int p1])).length) Slot.unset).toArray = ls at hl ⊢
  have hl : lv_has ls 4 [(0, .int p0), (1, .int p1)] := hl
  refine lv_iload_n hx hb dX7_needBit_0 rfl (lv_at hl 0 rfl) ?_
  obtain ⟨j21, ej, h⟩ := jn_ex h
  have hj21 : ∀ (y1 : Int32), j21 y1 = some () → ∀ (H : Heap) (locs : List Loc) (ls : Array Slot), va_P D vwCl (ck_W cI cZ a σ) H → va_D A (ck_W cI cZ a σ) → va_S A s.heap H locs → lv_has ls 4 [(0, .int p0), (1, .int p1)] → W p l e (headSpec wsX7_needBit rm_X7_needBit).room s m args below meth c H locs 0 0 (MQ below (ik_Qv D (ck_W cI cZ a) A σ) args s 0 0 A) (F0 m 21 ls [.int y1]) := by
    rw [ej]; clear h
    intro y1 h H locs ls hP hD hS hl
    refine lv_istore_n (lv' := [(2, .int y1), (0, .int p0), (1, .int p1)]) hx hb dX7_needBit_21 rfl hl (by decide) rfl (fun ls hl => ?_)
    refine lv_iload_n hx hb dX7_needBit_22 rfl (lv_at hl 1 rfl) ?_
    refine lv_iconst (v := 1) hx hb dX7_needBit_23 (by decide) ?_
    obtain ⟨j39, ej, h⟩ := jn_ex h
    have hj39 : ∀ (y2 : Int32), j39 y2 = some () → ∀ (H : Heap) (locs : List Loc) (ls : Array Slot), va_P D vwCl (ck_W cI cZ a σ) H → va_D A (ck_W cI cZ a σ) → va_S A s.heap H locs → lv_has ls 4 [(2, .int y1)] → W p l e (headSpec wsX7_needBit rm_X7_needBit).room s m args below meth c H locs 0 0 (MQ below (ik_Qv D (ck_W cI cZ a) A σ) args s 0 0 A) (F0 m 39 ls [.int y2]) := by
      rw [ej]; clear h
      intro y2 h H locs ls hP hD hS hl
      refine lv_istore_n (lv' := [(3, .int y2), (2, .int y1)]) hx hb dX7_needBit_39 rfl hl (by decide) rfl (fun ls hl => ?_)
      refine lv_iload_n hx hb dX7_needBit_40 rfl (lv_at hl 1 rfl) ?_
      refine lv_if_ne (tgt := 58) hx hb dX7_needBit_41 (by decide) (fun c3 => ?_) (fun c3 => ?_)
      · have h := ik_f c3 h
        exact W.vret hx hb hr (fun t ht hW => ⟨⟨_, rfl, rfl, by rw [ht]; exact hP, hD⟩, hS.F ht⟩) hS.2.2 dX7_needBit_58
      · have h := ik_t c3 h
        refine lv_iload_n hx hb dX7_needBit_44 rfl (lv_at hl 0 rfl) ?_
        refine lv_if_ne (tgt := 58) hx hb dX7_needBit_45 (by decide) (fun c4 => ?_) (fun c4 => ?_)
        · have h := ik_f c4 h
          exact W.vret hx hb hr (fun t ht hW => ⟨⟨_, rfl, rfl, by rw [ht]; exact hP, hD⟩, hS.F ht⟩) hS.2.2 dX7_needBit_58
        · have h := ik_t c4 h
          cases h
    clear ej
    obtain ⟨j38, ej, h⟩ := jn_ex h
    have hj38 : ∀ (_u : Unit), j38 _u = some () → ∀ (H : Heap) (locs : List Loc) (ls : Array Slot), va_P D vwCl (ck_W cI cZ a σ) H → va_D A (ck_W cI cZ a σ) → va_S A s.heap H locs → lv_has ls 4 [(2, .int y1)] → W p l e (headSpec wsX7_needBit rm_X7_needBit).room s m args below meth c H locs 0 0 (MQ below (ik_Qv D (ck_W cI cZ a) A σ) args s 0 0 A) (F0 m 38 ls []) := by
      rw [ej]; clear h
      intro _u h H locs ls hP hD hS hl
      refine lv_iconst (v := 0) hx hb dX7_needBit_38 (by decide) ?_
      exact hj39 _ h _ _ _ hP hD hS (lv_sub hl [0] rfl)
    clear ej
    refine lv_icmp_ne (tgt := 38) hx hb dX7_needBit_24 (by decide) (fun c5 => ?_) (fun c5 => ?_)
    · have h := ik_f c5 h
      exact hj38 () h _ _ _ hP hD hS (lv_sub hl [0] rfl)
    · have h := ik_t c5 h
      refine lv_iload_n hx hb dX7_needBit_27 rfl (lv_at hl 2 rfl) ?_
      obtain ⟨v6, eh, h⟩ := ik_bd h
      refine ik_Si (As := [.int p1]) (rest := []) ⟨hx, hb, hml, hown, hts⟩ (c_X7_isFile l D cI cZ a A p1 σ _ eh) (va_cwS 1 hts gX7_needBit_X7_isFile rfl rfl rfl (by decide +kernel) ⟨Nat.le_of_ble_eq_true rfl, Nat.le_of_ble_eq_true rfl⟩) hP hK hD hN hS rfl hl.1 rfl (Nat.le_of_ble_eq_true rfl) dX7_needBit_28 (fun H locs hP hD hS => ?_)
      clear eh
      refine lv_if_eq (tgt := 38) hx hb dX7_needBit_31 (by decide) (fun c7 => ?_) (fun c7 => ?_)
      · have h := ik_t c7 h
        exact hj38 () h _ _ _ hP hD hS (lv_sub hl [0] rfl)
      · have h := ik_f c7 h
        refine lv_iconst (v := 1) hx hb dX7_needBit_34 (by decide) ?_
        refine lv_goto (tgt := 39) hx hb dX7_needBit_35 (by decide) ?_
        exact hj39 _ h _ _ _ hP hD hS (lv_sub hl [0] rfl)
  clear ej
  obtain ⟨j20, ej, h⟩ := jn_ex h
  have hj20 : ∀ (_u : Unit), j20 _u = some () → ∀ (H : Heap) (locs : List Loc) (ls : Array Slot), va_P D vwCl (ck_W cI cZ a σ) H → va_D A (ck_W cI cZ a σ) → va_S A s.heap H locs → lv_has ls 4 [(0, .int p0), (1, .int p1)] → W p l e (headSpec wsX7_needBit rm_X7_needBit).room s m args below meth c H locs 0 0 (MQ below (ik_Qv D (ck_W cI cZ a) A σ) args s 0 0 A) (F0 m 20 ls []) := by
    rw [ej]; clear h
    intro _u h H locs ls hP hD hS hl
    refine lv_iconst (v := 0) hx hb dX7_needBit_20 (by decide) ?_
    exact hj21 _ h _ _ _ hP hD hS (lv_sub hl [0, 1] rfl)
  clear ej
  refine lv_if_ne (tgt := 20) hx hb dX7_needBit_1 (by decide) (fun c8 => ?_) (fun c8 => ?_)
  · have h := ik_f c8 h
    exact hj20 () h _ _ _ hP hD hS (lv_sub hl [0, 1] rfl)
  · have h := ik_t c8 h
    refine lv_iload_n hx hb dX7_needBit_4 rfl (lv_at hl 1 rfl) ?_
    refine lv_iconst (v := 1) hx hb dX7_needBit_5 (by decide) ?_
    refine lv_icmp_lt (tgt := 20) hx hb dX7_needBit_6 (by decide) (fun c9 => ?_) (fun c9 => ?_)
    · have h := ik_t c9 h
      exact hj20 () h _ _ _ hP hD hS (lv_sub hl [0, 1] rfl)
    · have h := ik_f c9 h
      refine lv_iload_n hx hb dX7_needBit_9 rfl (lv_at hl 1 rfl) ?_
      refine lv_sipush (v := 200) hx hb dX7_needBit_10 (by decide) ?_
      refine lv_icmp_gt (tgt := 20) hx hb dX7_needBit_13 (by decide) (fun c10 => ?_) (fun c10 => ?_)
      · have h := ik_t c10 h
        exact hj20 () h _ _ _ hP hD hS (lv_sub hl [0, 1] rfl)
      · have h := ik_f c10 h
        refine lv_iconst (v := 1) hx hb dX7_needBit_16 (by decide) ?_
        refine lv_goto (tgt := 21) hx hb dX7_needBit_17 (by decide) ?_
        exact hj21 _ h _ _ _ hP hD hS (lv_sub hl [0, 1] rfl)
abbrev rt_X7_needBit : Room := { frames := 6, cells := 1, slots := 6, locals := 90 }
set_option maxHeartbeats 4000000 in
set_option maxRecDepth 100000 in
theorem t_X7_needBit (l : Launch) (hl0 : l.stackTraces = false) (D : va_G) (cI cZ : ClassId) (a : Nat → Nat) (A : Nat → Prop) (p0 : Int32) (p1 : Int32) (σ : ck_S) (h : tX7_needBit p0 p1 σ = some ()) : vx_Met l yX7_needBit wsX7_needBit rt_X7_needBit (va_Pc [.int p0, .int p1] (fun U => ik_P D [(cI, .int), (cZ, .boolean)] ck_N (ck_W cI cZ a) A σ U ∧ xk_P A U)) (xk_Qv A) (xk_X D (ck_W cI cZ a) A σ) 1 6 A := by
  unfold tX7_needBit at h
  refine vx_ofW (cc := cX7_needBit) (maxL := 4) (ret := none) (by decide) rfl ?_
  intro p e s m args below meth c s₁ B hml htab hv
  obtain ⟨hAr, ⟨hP, hK, hD, hN⟩, hX⟩ := hv
  have hx := B.exec
  have hb := B.bytes
  have hr := B.returns
  have hts := atoms_spec (ws := wsX7_needBit) B.pre
  have hown : s.vm.findClass RX7 = some m.cls := findClass_of_methodNamed B.named
  have hlocks := B.notSynchronized
  have hS : va_S A s.heap s.heap [] := va_S.rf
  have hl := lv_entry ([.int p0, .int p1]) (n := 4) (Nat.le_of_ble_eq_true rfl)
  rw [show entryFrame m args 4 = entryFrame m ([.int p0, .int p1] : List Value).toArray 4 from by rw [hAr], lg_entry_eq]
  generalize (lg_sl ([.int p0, .int p1]) ++ List.replicate (4 - (lg_sl ([.int p0, .int p1])).length) Slot.unset).toArray = ls at hl ⊢
  have hl : lv_has ls 4 [(0, .int p0), (1, .int p1)] := hl
  refine lv_iload_n hx hb dX7_needBit_0 rfl (lv_at hl 0 rfl) ?_
  obtain ⟨j21, ej, h⟩ := jn_ex h
  have hj21 : ∀ (y1 : Int32), j21 y1 = some () → ∀ (H : Heap) (locs : List Loc) (ls : Array Slot), va_P D vwCl (ck_W cI cZ a σ) H → va_D A (ck_W cI cZ a σ) → va_S A s.heap H locs → lv_has ls 4 [(0, .int p0), (1, .int p1)] → W p l e (headSpec wsX7_needBit rt_X7_needBit).room s m args below meth c H locs 0 0 (vx_MQ below (xk_Qv A) (xk_X D (ck_W cI cZ a) A σ) args s 1 6 A) (F0 m 21 ls [.int y1]) := by
    rw [ej]; clear h
    intro y1 h H locs ls hP hD hS hl
    refine lv_istore_n (lv' := [(2, .int y1), (0, .int p0), (1, .int p1)]) hx hb dX7_needBit_21 rfl hl (by decide) rfl (fun ls hl => ?_)
    refine lv_iload_n hx hb dX7_needBit_22 rfl (lv_at hl 1 rfl) ?_
    refine lv_iconst (v := 1) hx hb dX7_needBit_23 (by decide) ?_
    obtain ⟨j39, ej, h⟩ := jn_ex h
    have hj39 : ∀ (y2 : Int32), j39 y2 = some () → ∀ (H : Heap) (locs : List Loc) (ls : Array Slot), va_P D vwCl (ck_W cI cZ a σ) H → va_D A (ck_W cI cZ a σ) → va_S A s.heap H locs → lv_has ls 4 [(2, .int y1)] → W p l e (headSpec wsX7_needBit rt_X7_needBit).room s m args below meth c H locs 0 0 (vx_MQ below (xk_Qv A) (xk_X D (ck_W cI cZ a) A σ) args s 1 6 A) (F0 m 39 ls [.int y2]) := by
      rw [ej]; clear h
      intro y2 h H locs ls hP hD hS hl
      refine lv_istore_n (lv' := [(3, .int y2), (2, .int y1)]) hx hb dX7_needBit_39 rfl hl (by decide) rfl (fun ls hl => ?_)
      refine lv_iload_n hx hb dX7_needBit_40 rfl (lv_at hl 1 rfl) ?_
      refine lv_if_ne (tgt := 58) hx hb dX7_needBit_41 (by decide) (fun c3 => ?_) (fun c3 => ?_)
      · have h := ik_f c3 h
        cases h
      · have h := ik_t c3 h
        refine lv_iload_n hx hb dX7_needBit_44 rfl (lv_at hl 0 rfl) ?_
        refine lv_if_ne (tgt := 58) hx hb dX7_needBit_45 (by decide) (fun c4 => ?_) (fun c4 => ?_)
        · have h := ik_f c4 h
          cases h
        · have h := ik_t c4 h
          exact vx_throwS (own := RX7) (cls := xk_E) (text := "there is no such bit") (names := xk_Ns) (A := A) hx hb hl0 hown (by decide +kernel) (by decide +kernel) (hts (.classLink RX7 141 xk_E) (by decide +kernel)) (hts (.initialized xk_E) (by decide +kernel)) hX.2.2.2.2.2.choose_spec (vx_hat (B := xk_B) (fun w hw => hts w (List.mem_cons_of_mem _ (List.mem_append_right _ hw))) xk_bad hX.2.2.1.use) (by decide +kernel) hX.1 hX.2.1 hS (hl.1.trans hml.symm) dX7_needBit_48 dX7_needBit_51 dX7_needBit_52 dX7_needBit_54 dX7_needBit_57 (fun x hx => (htab x hx).elim) (by decide) (Nat.le_of_ble_eq_true rfl) (by decide) (by decide) hlocks (xk_thrown hP hD hS) hS.2.2 (by decide) (by decide)
    clear ej
    obtain ⟨j38, ej, h⟩ := jn_ex h
    have hj38 : ∀ (_u : Unit), j38 _u = some () → ∀ (H : Heap) (locs : List Loc) (ls : Array Slot), va_P D vwCl (ck_W cI cZ a σ) H → va_D A (ck_W cI cZ a σ) → va_S A s.heap H locs → lv_has ls 4 [(2, .int y1)] → W p l e (headSpec wsX7_needBit rt_X7_needBit).room s m args below meth c H locs 0 0 (vx_MQ below (xk_Qv A) (xk_X D (ck_W cI cZ a) A σ) args s 1 6 A) (F0 m 38 ls []) := by
      rw [ej]; clear h
      intro _u h H locs ls hP hD hS hl
      refine lv_iconst (v := 0) hx hb dX7_needBit_38 (by decide) ?_
      exact hj39 _ h _ _ _ hP hD hS (lv_sub hl [0] rfl)
    clear ej
    refine lv_icmp_ne (tgt := 38) hx hb dX7_needBit_24 (by decide) (fun c5 => ?_) (fun c5 => ?_)
    · have h := ik_f c5 h
      exact hj38 () h _ _ _ hP hD hS (lv_sub hl [0] rfl)
    · have h := ik_t c5 h
      refine lv_iload_n hx hb dX7_needBit_27 rfl (lv_at hl 2 rfl) ?_
      obtain ⟨v6, eh, h⟩ := ik_bd h
      refine ik_Si (As := [.int p1]) (rest := []) ⟨hx, hb, hml, hown, hts⟩ (c_X7_isFile l D cI cZ a A p1 σ _ eh) (va_cwS 1 hts gX7_needBit_X7_isFile rfl rfl rfl (by decide +kernel) ⟨Nat.le_of_ble_eq_true rfl, Nat.le_of_ble_eq_true rfl⟩) hP hK hD hN hS rfl hl.1 rfl (Nat.le_of_ble_eq_true rfl) dX7_needBit_28 (fun H locs hP hD hS => ?_)
      clear eh
      refine lv_if_eq (tgt := 38) hx hb dX7_needBit_31 (by decide) (fun c7 => ?_) (fun c7 => ?_)
      · have h := ik_t c7 h
        exact hj38 () h _ _ _ hP hD hS (lv_sub hl [0] rfl)
      · have h := ik_f c7 h
        refine lv_iconst (v := 1) hx hb dX7_needBit_34 (by decide) ?_
        refine lv_goto (tgt := 39) hx hb dX7_needBit_35 (by decide) ?_
        exact hj39 _ h _ _ _ hP hD hS (lv_sub hl [0] rfl)
  clear ej
  obtain ⟨j20, ej, h⟩ := jn_ex h
  have hj20 : ∀ (_u : Unit), j20 _u = some () → ∀ (H : Heap) (locs : List Loc) (ls : Array Slot), va_P D vwCl (ck_W cI cZ a σ) H → va_D A (ck_W cI cZ a σ) → va_S A s.heap H locs → lv_has ls 4 [(0, .int p0), (1, .int p1)] → W p l e (headSpec wsX7_needBit rt_X7_needBit).room s m args below meth c H locs 0 0 (vx_MQ below (xk_Qv A) (xk_X D (ck_W cI cZ a) A σ) args s 1 6 A) (F0 m 20 ls []) := by
    rw [ej]; clear h
    intro _u h H locs ls hP hD hS hl
    refine lv_iconst (v := 0) hx hb dX7_needBit_20 (by decide) ?_
    exact hj21 _ h _ _ _ hP hD hS (lv_sub hl [0, 1] rfl)
  clear ej
  refine lv_if_ne (tgt := 20) hx hb dX7_needBit_1 (by decide) (fun c8 => ?_) (fun c8 => ?_)
  · have h := ik_f c8 h
    exact hj20 () h _ _ _ hP hD hS (lv_sub hl [0, 1] rfl)
  · have h := ik_t c8 h
    refine lv_iload_n hx hb dX7_needBit_4 rfl (lv_at hl 1 rfl) ?_
    refine lv_iconst (v := 1) hx hb dX7_needBit_5 (by decide) ?_
    refine lv_icmp_lt (tgt := 20) hx hb dX7_needBit_6 (by decide) (fun c9 => ?_) (fun c9 => ?_)
    · have h := ik_t c9 h
      exact hj20 () h _ _ _ hP hD hS (lv_sub hl [0, 1] rfl)
    · have h := ik_f c9 h
      refine lv_iload_n hx hb dX7_needBit_9 rfl (lv_at hl 1 rfl) ?_
      refine lv_sipush (v := 200) hx hb dX7_needBit_10 (by decide) ?_
      refine lv_icmp_gt (tgt := 20) hx hb dX7_needBit_13 (by decide) (fun c10 => ?_) (fun c10 => ?_)
      · have h := ik_t c10 h
        exact hj20 () h _ _ _ hP hD hS (lv_sub hl [0, 1] rfl)
      · have h := ik_f c10 h
        refine lv_iconst (v := 1) hx hb dX7_needBit_16 (by decide) ?_
        refine lv_goto (tgt := 21) hx hb dX7_needBit_17 (by decide) ?_
        exact hj21 _ h _ _ _ hP hD hS (lv_sub hl [0, 1] rfl)
abbrev rm_X7_bit : Room := { frames := 2, cells := 0, slots := 0, locals := 44 }
theorem in_X7_bit_X7 : ∀ w ∈ wsX70, w ∈ wsX7_bit := by decide +kernel
set_option maxHeartbeats 4000000 in
set_option maxRecDepth 100000 in
theorem c_X7_bit (l : Launch) (D : va_G) (cI cZ : ClassId) (a : Nat → Nat) (A : Nat → Prop) (p0 : Int32) (p1 : Int32) (p2 : Int32) (σ : ck_S) (σz : ck_S) (h : fX7_bit p0 p1 p2 σ = some σz) : Met l yX7_bit wsX7_bit rm_X7_bit (va_Pc [.ref (a 0), .int p0, .int p1, .int p2] (ik_P D [(cI, .int), (cZ, .boolean)] ck_N (ck_W cI cZ a) A σ)) (ik_Qv D (ck_W cI cZ a) A σz) 0 0 A := by
  unfold fX7_bit at h
  refine Met.ofW (cc := cX7_bit) (maxL := 4) (ret := none) (by decide) rfl ?_
  intro p e s m args below meth c s₁ B hml hv
  obtain ⟨hAr, hP, hK, hD, hN⟩ := hv
  have hx := B.exec
  have hb := B.bytes
  have hr := B.returns
  have hts := atoms_spec (ws := wsX7_bit) B.pre
  have hown : s.vm.findClass RX7 = some m.cls := findClass_of_methodNamed B.named
  have hlocks := B.notSynchronized
  have hS : va_S A s.heap s.heap [] := va_S.rf
  have hl := lv_entry ([.ref (a 0), .int p0, .int p1, .int p2]) (n := 4) (Nat.le_of_ble_eq_true rfl)
  rw [show entryFrame m args 4 = entryFrame m ([.ref (a 0), .int p0, .int p1, .int p2] : List Value).toArray 4 from by rw [hAr], lg_entry_eq]
  generalize (lg_sl ([.ref (a 0), .int p0, .int p1, .int p2]) ++ List.replicate (4 - (lg_sl ([.ref (a 0), .int p0, .int p1, .int p2])).length) Slot.unset).toArray = ls at hl ⊢
  have hl : lv_has ls 4 [(0, .ref (a 0)), (1, .int p0), (2, .int p1), (3, .int p2)] := hl
  refine lv_iload_n hx hb dX7_bit_0 rfl (lv_at hl 1 rfl) ?_
  refine lv_iload_n hx hb dX7_bit_1 rfl (lv_at hl 2 rfl) ?_
  obtain ⟨u1, eh, h⟩ := ik_bd h
  refine ik_Sv (As := [.int p0, .int p1]) (rest := []) ⟨hx, hb, hml, hown, hts⟩ (c_X7_needBit l D cI cZ a A p0 p1 σ eh) (va_cwS 2 hts gX7_bit_X7_needBit rfl rfl rfl (by decide +kernel) ⟨Nat.le_of_ble_eq_true rfl, Nat.le_of_ble_eq_true rfl⟩) hP hK hD hN hS rfl hl.1 rfl (Nat.le_of_ble_eq_true rfl) dX7_bit_2 (fun H locs hP hD hS => ?_)
  clear eh
  refine lv_aload_n hx hb dX7_bit_5 rfl (lv_at hl 0 rfl) ?_
  refine va_get (D := D) (ci := 5) (v := .ref (a 1)) (C := RX7) (T := TX7) (N := 6) hx hb hts in_X7_bit_X7 hown hK hP 0 rfl rfl 0 (by decide) (hts (.fieldLink RX7 10 "ImageChecker" "tables" "LImageChecker$Tables;") (by decide +kernel)) (fun _ h9 => h9) rfl dX7_bit_6 ?_
  refine lv_iload_n hx hb dX7_bit_9 rfl (lv_at hl 1 rfl) ?_
  refine lv_iload_n hx hb dX7_bit_10 rfl (lv_at hl 2 rfl) ?_
  refine lv_iload_n hx hb dX7_bit_11 rfl (lv_at hl 3 rfl) ?_
  obtain ⟨j20, ej, h⟩ := jn_ex h
  have hj20 : ∀ (y2 : Int32), j20 y2 = some σz → ∀ (H : Heap) (locs : List Loc) (ls : Array Slot), va_P D vwCl (ck_W cI cZ a σ) H → va_D A (ck_W cI cZ a σ) → va_S A s.heap H locs → lv_has ls 4 [] → W p l e (headSpec wsX7_bit rm_X7_bit).room s m args below meth c H locs 0 0 (MQ below (ik_Qv D (ck_W cI cZ a) A σz) args s 0 0 A) (F0 m 20 ls [.int y2, .int p1, .int p0, .ref (a 1)]) := by
    rw [ej]; clear h
    intro y2 h H locs ls hP hD hS hl
    obtain ⟨σ3, eh, h⟩ := ik_bd h
    refine ik_Vv (As := [.int p0, .int p1, .int y2]) (rest := []) ⟨hx, hb, hml, hown, hts⟩ (c_X5_putBit l D cI cZ a A p0 p1 y2 σ _ eh) (cwV 3 hts gX7_bit_X5_putBit rfl rfl rfl (by decide +kernel) ⟨Nat.le_of_ble_eq_true rfl, Nat.le_of_ble_eq_true rfl⟩) (va_recv hK hP (ci := 3) (q0 := 1) rfl rfl) hP hK hD hN hS rfl hl.1 rfl (Nat.le_of_ble_eq_true rfl) dX7_bit_20 (fun H locs hP hD hS => ?_)
    clear eh
    exact W.vret hx hb hr (fun t ht hW => ⟨⟨_, rfl, Option.some.inj h, by rw [ht]; exact hP, hD⟩, hS.F ht⟩) hS.2.2 dX7_bit_23
  clear ej
  refine lv_if_eq (tgt := 19) hx hb dX7_bit_12 (by decide) (fun c4 => ?_) (fun c4 => ?_)
  · have h := ik_t c4 h
    refine lv_iconst (v := 0) hx hb dX7_bit_19 (by decide) ?_
    exact hj20 _ h _ _ _ hP hD hS (lv_sub hl [] rfl)
  · have h := ik_f c4 h
    refine lv_iconst (v := 1) hx hb dX7_bit_15 (by decide) ?_
    refine lv_goto (tgt := 20) hx hb dX7_bit_16 (by decide) ?_
    exact hj20 _ h _ _ _ hP hD hS (lv_sub hl [] rfl)
abbrev rt_X7_bit : Room := { frames := 7, cells := 1, slots := 6, locals := 113 }
set_option maxHeartbeats 4000000 in
set_option maxRecDepth 100000 in
theorem t_X7_bit (l : Launch) (hl0 : l.stackTraces = false) (D : va_G) (cI cZ : ClassId) (a : Nat → Nat) (A : Nat → Prop) (p0 : Int32) (p1 : Int32) (p2 : Int32) (σ : ck_S) (h : tX7_bit p0 p1 p2 σ = some ()) : vx_Met l yX7_bit wsX7_bit rt_X7_bit (va_Pc [.ref (a 0), .int p0, .int p1, .int p2] (fun U => ik_P D [(cI, .int), (cZ, .boolean)] ck_N (ck_W cI cZ a) A σ U ∧ xk_P A U)) (xk_Qv A) (xk_X D (ck_W cI cZ a) A σ) 1 6 A := by
  unfold tX7_bit at h
  refine vx_ofW (cc := cX7_bit) (maxL := 4) (ret := none) (by decide) rfl ?_
  intro p e s m args below meth c s₁ B hml htab hv
  obtain ⟨hAr, ⟨hP, hK, hD, hN⟩, hX⟩ := hv
  have hx := B.exec
  have hb := B.bytes
  have hr := B.returns
  have hts := atoms_spec (ws := wsX7_bit) B.pre
  have hown : s.vm.findClass RX7 = some m.cls := findClass_of_methodNamed B.named
  have hlocks := B.notSynchronized
  have hS : va_S A s.heap s.heap [] := va_S.rf
  have hl := lv_entry ([.ref (a 0), .int p0, .int p1, .int p2]) (n := 4) (Nat.le_of_ble_eq_true rfl)
  rw [show entryFrame m args 4 = entryFrame m ([.ref (a 0), .int p0, .int p1, .int p2] : List Value).toArray 4 from by rw [hAr], lg_entry_eq]
  generalize (lg_sl ([.ref (a 0), .int p0, .int p1, .int p2]) ++ List.replicate (4 - (lg_sl ([.ref (a 0), .int p0, .int p1, .int p2])).length) Slot.unset).toArray = ls at hl ⊢
  have hl : lv_has ls 4 [(0, .ref (a 0)), (1, .int p0), (2, .int p1), (3, .int p2)] := hl
  refine lv_iload_n hx hb dX7_bit_0 rfl (lv_at hl 1 rfl) ?_
  refine lv_iload_n hx hb dX7_bit_1 rfl (lv_at hl 2 rfl) ?_
  by_cases c1 : tX7_needBit p0 p1 σ = some ()
  · exact xk_St (As := [.int p0, .int p1]) (rest := []) ⟨hx, hb, hml, hown, hts⟩ (t_X7_needBit l hl0 D cI cZ a A p0 p1 σ c1) (va_cwS 2 hts gX7_bit_X7_needBit rfl rfl rfl (by decide +kernel) ⟨Nat.le_of_ble_eq_true rfl, Nat.le_of_ble_eq_true rfl⟩) hP hK hD hN hX hS rfl hl.1 rfl (Nat.le_of_ble_eq_true rfl) dX7_bit_2 ⟨by decide, by decide⟩ htab hlocks
  have h := ik_f c1 h
  obtain ⟨u2, eh, h⟩ := ik_bd h
  refine ik_Sv (As := [.int p0, .int p1]) (rest := []) ⟨hx, hb, hml, hown, hts⟩ (c_X7_needBit l D cI cZ a A p0 p1 σ eh) (va_cwS 2 hts gX7_bit_X7_needBit rfl rfl rfl (by decide +kernel) ⟨Nat.le_of_ble_eq_true rfl, Nat.le_of_ble_eq_true rfl⟩) hP hK hD hN hS rfl hl.1 rfl (Nat.le_of_ble_eq_true rfl) dX7_bit_2 (fun H locs hP hD hS => ?_)
  clear eh
  refine lv_aload_n hx hb dX7_bit_5 rfl (lv_at hl 0 rfl) ?_
  refine va_get (D := D) (ci := 5) (v := .ref (a 1)) (C := RX7) (T := TX7) (N := 6) hx hb hts in_X7_bit_X7 hown hK hP 0 rfl rfl 0 (by decide) (hts (.fieldLink RX7 10 "ImageChecker" "tables" "LImageChecker$Tables;") (by decide +kernel)) (fun _ h9 => h9) rfl dX7_bit_6 ?_
  refine lv_iload_n hx hb dX7_bit_9 rfl (lv_at hl 1 rfl) ?_
  refine lv_iload_n hx hb dX7_bit_10 rfl (lv_at hl 2 rfl) ?_
  refine lv_iload_n hx hb dX7_bit_11 rfl (lv_at hl 3 rfl) ?_
  obtain ⟨j20, ej, h⟩ := jn_ex h
  have hj20 : ∀ (y3 : Int32), j20 y3 = some () → ∀ (H : Heap) (locs : List Loc) (ls : Array Slot), va_P D vwCl (ck_W cI cZ a σ) H → va_D A (ck_W cI cZ a σ) → va_S A s.heap H locs → lv_has ls 4 [] → W p l e (headSpec wsX7_bit rt_X7_bit).room s m args below meth c H locs 0 0 (vx_MQ below (xk_Qv A) (xk_X D (ck_W cI cZ a) A σ) args s 1 6 A) (F0 m 20 ls [.int y3, .int p1, .int p0, .ref (a 1)]) := by
    rw [ej]; clear h
    intro y3 h H locs ls hP hD hS hl
    obtain ⟨σ4, eh, h⟩ := ik_bd h
    refine ik_Vv (As := [.int p0, .int p1, .int y3]) (rest := []) ⟨hx, hb, hml, hown, hts⟩ (c_X5_putBit l D cI cZ a A p0 p1 y3 σ _ eh) (cwV 3 hts gX7_bit_X5_putBit rfl rfl rfl (by decide +kernel) ⟨Nat.le_of_ble_eq_true rfl, Nat.le_of_ble_eq_true rfl⟩) (va_recv hK hP (ci := 3) (q0 := 1) rfl rfl) hP hK hD hN hS rfl hl.1 rfl (Nat.le_of_ble_eq_true rfl) dX7_bit_20 (fun H locs hP hD hS => ?_)
    clear eh
    cases h
  clear ej
  refine lv_if_eq (tgt := 19) hx hb dX7_bit_12 (by decide) (fun c5 => ?_) (fun c5 => ?_)
  · have h := ik_t c5 h
    refine lv_iconst (v := 0) hx hb dX7_bit_19 (by decide) ?_
    exact hj20 _ h _ _ _ hP hD hS (lv_sub hl [] rfl)
  · have h := ik_f c5 h
    refine lv_iconst (v := 1) hx hb dX7_bit_15 (by decide) ?_
    refine lv_goto (tgt := 20) hx hb dX7_bit_16 (by decide) ?_
    exact hj20 _ h _ _ _ hP hD hS (lv_sub hl [] rfl)
abbrev rm_X7_entry : Room := { frames := 2, cells := 0, slots := 0, locals := 47 }
theorem in_X7_entry_X7 : ∀ w ∈ wsX70, w ∈ wsX7_entry := by decide +kernel
set_option maxHeartbeats 4000000 in
set_option maxRecDepth 100000 in
theorem c_X7_entry (l : Launch) (D : va_G) (cI cZ : ClassId) (a : Nat → Nat) (A : Nat → Prop) (p0 : Int32) (p1 : Int32) (p2 : Int32) (p3 : Int32) (p4 : Int32) (σ : ck_S) (σz : ck_S) (h : fX7_entry p0 p1 p2 p3 p4 σ = some σz) : Met l yX7_entry wsX7_entry rm_X7_entry (va_Pc [.ref (a 0), .int p0, .int p1, .int p2, .int p3, .int p4] (ik_P D [(cI, .int), (cZ, .boolean)] ck_N (ck_W cI cZ a) A σ)) (ik_Qv D (ck_W cI cZ a) A σz) 0 0 A := by
  unfold fX7_entry at h
  refine Met.ofW (cc := cX7_entry) (maxL := 6) (ret := none) (by decide) rfl ?_
  intro p e s m args below meth c s₁ B hml hv
  obtain ⟨hAr, hP, hK, hD, hN⟩ := hv
  have hx := B.exec
  have hb := B.bytes
  have hr := B.returns
  have hts := atoms_spec (ws := wsX7_entry) B.pre
  have hown : s.vm.findClass RX7 = some m.cls := findClass_of_methodNamed B.named
  have hlocks := B.notSynchronized
  have hS : va_S A s.heap s.heap [] := va_S.rf
  have hl := lv_entry ([.ref (a 0), .int p0, .int p1, .int p2, .int p3, .int p4]) (n := 6) (Nat.le_of_ble_eq_true rfl)
  rw [show entryFrame m args 6 = entryFrame m ([.ref (a 0), .int p0, .int p1, .int p2, .int p3, .int p4] : List Value).toArray 6 from by rw [hAr], lg_entry_eq]
  generalize (lg_sl ([.ref (a 0), .int p0, .int p1, .int p2, .int p3, .int p4]) ++ List.replicate (6 - (lg_sl ([.ref (a 0), .int p0, .int p1, .int p2, .int p3, .int p4])).length) Slot.unset).toArray = ls at hl ⊢
  have hl : lv_has ls 6 [(0, .ref (a 0)), (1, .int p0), (2, .int p1), (3, .int p2), (4, .int p3), (5, .int p4)] := hl
  refine lv_iload_n hx hb dX7_entry_0 rfl (lv_at hl 1 rfl) ?_
  obtain ⟨u1, eh, h⟩ := ik_bd h
  refine ik_Sv (As := [.int p0]) (rest := []) ⟨hx, hb, hml, hown, hts⟩ (c_X7_needFile l D cI cZ a A p0 σ eh) (va_cwS 1 hts gX7_entry_X7_needFile rfl rfl rfl (by decide +kernel) ⟨Nat.le_of_ble_eq_true rfl, Nat.le_of_ble_eq_true rfl⟩) hP hK hD hN hS rfl hl.1 rfl (Nat.le_of_ble_eq_true rfl) dX7_entry_1 (fun H locs hP hD hS => ?_)
  clear eh
  refine lv_iload_n hx hb dX7_entry_4 rfl (lv_at hl 2 rfl) ?_
  refine lv_bipush (v := 8) hx hb dX7_entry_5 (by decide) ?_
  obtain ⟨u2, eh, h⟩ := ik_bd h
  refine ik_Sv (As := [.int p1, .int 8]) (rest := []) ⟨hx, hb, hml, hown, hts⟩ (c_X7_needPlace l D cI cZ a A p1 8 σ eh) (va_cwS 2 hts gX7_entry_X7_needPlace rfl rfl rfl (by decide +kernel) ⟨Nat.le_of_ble_eq_true rfl, Nat.le_of_ble_eq_true rfl⟩) hP hK hD hN hS rfl hl.1 rfl (Nat.le_of_ble_eq_true rfl) dX7_entry_7 (fun H locs hP hD hS => ?_)
  clear eh
  refine lv_aload_n hx hb dX7_entry_10 rfl (lv_at hl 0 rfl) ?_
  refine va_get (D := D) (ci := 5) (v := .ref (a 1)) (C := RX7) (T := TX7) (N := 6) hx hb hts in_X7_entry_X7 hown hK hP 0 rfl rfl 0 (by decide) (hts (.fieldLink RX7 10 "ImageChecker" "tables" "LImageChecker$Tables;") (by decide +kernel)) (fun _ h9 => h9) rfl dX7_entry_11 ?_
  refine lv_iload_n hx hb dX7_entry_14 rfl (lv_at hl 1 rfl) ?_
  refine lv_iload_n hx hb dX7_entry_15 rfl (lv_at hl 2 rfl) ?_
  refine lv_iload_n hx hb dX7_entry_16 rfl (lv_at hl 3 rfl) ?_
  refine lv_iload hx hb dX7_entry_17 (lv_at hl 4 rfl) ?_
  refine lv_iload hx hb dX7_entry_19 (lv_at hl 5 rfl) ?_
  obtain ⟨σ3, eh, h⟩ := ik_bd h
  refine ik_Vv (As := [.int p0, .int p1, .int p2, .int p3, .int p4]) (rest := []) ⟨hx, hb, hml, hown, hts⟩ (c_X5_putEntry l D cI cZ a A p0 p1 p2 p3 p4 σ _ eh) (cwV 5 hts gX7_entry_X5_putEntry rfl rfl rfl (by decide +kernel) ⟨Nat.le_of_ble_eq_true rfl, Nat.le_of_ble_eq_true rfl⟩) (va_recv hK hP (ci := 3) (q0 := 1) rfl rfl) hP hK hD hN hS rfl hl.1 rfl (Nat.le_of_ble_eq_true rfl) dX7_entry_21 (fun H locs hP hD hS => ?_)
  clear eh
  exact W.vret hx hb hr (fun t ht hW => ⟨⟨_, rfl, Option.some.inj h, by rw [ht]; exact hP, hD⟩, hS.F ht⟩) hS.2.2 dX7_entry_24
abbrev rt_X7_entry : Room := { frames := 7, cells := 1, slots := 6, locals := 111 }
set_option maxHeartbeats 4000000 in
set_option maxRecDepth 100000 in
theorem t_X7_entry (l : Launch) (hl0 : l.stackTraces = false) (D : va_G) (cI cZ : ClassId) (a : Nat → Nat) (A : Nat → Prop) (p0 : Int32) (p1 : Int32) (p2 : Int32) (p3 : Int32) (p4 : Int32) (σ : ck_S) (h : tX7_entry p0 p1 p2 p3 p4 σ = some ()) : vx_Met l yX7_entry wsX7_entry rt_X7_entry (va_Pc [.ref (a 0), .int p0, .int p1, .int p2, .int p3, .int p4] (fun U => ik_P D [(cI, .int), (cZ, .boolean)] ck_N (ck_W cI cZ a) A σ U ∧ xk_P A U)) (xk_Qv A) (xk_X D (ck_W cI cZ a) A σ) 1 6 A := by
  unfold tX7_entry at h
  refine vx_ofW (cc := cX7_entry) (maxL := 6) (ret := none) (by decide) rfl ?_
  intro p e s m args below meth c s₁ B hml htab hv
  obtain ⟨hAr, ⟨hP, hK, hD, hN⟩, hX⟩ := hv
  have hx := B.exec
  have hb := B.bytes
  have hr := B.returns
  have hts := atoms_spec (ws := wsX7_entry) B.pre
  have hown : s.vm.findClass RX7 = some m.cls := findClass_of_methodNamed B.named
  have hlocks := B.notSynchronized
  have hS : va_S A s.heap s.heap [] := va_S.rf
  have hl := lv_entry ([.ref (a 0), .int p0, .int p1, .int p2, .int p3, .int p4]) (n := 6) (Nat.le_of_ble_eq_true rfl)
  rw [show entryFrame m args 6 = entryFrame m ([.ref (a 0), .int p0, .int p1, .int p2, .int p3, .int p4] : List Value).toArray 6 from by rw [hAr], lg_entry_eq]
  generalize (lg_sl ([.ref (a 0), .int p0, .int p1, .int p2, .int p3, .int p4]) ++ List.replicate (6 - (lg_sl ([.ref (a 0), .int p0, .int p1, .int p2, .int p3, .int p4])).length) Slot.unset).toArray = ls at hl ⊢
  have hl : lv_has ls 6 [(0, .ref (a 0)), (1, .int p0), (2, .int p1), (3, .int p2), (4, .int p3), (5, .int p4)] := hl
  refine lv_iload_n hx hb dX7_entry_0 rfl (lv_at hl 1 rfl) ?_
  by_cases c1 : tX7_needFile p0 σ = some ()
  · exact xk_St (As := [.int p0]) (rest := []) ⟨hx, hb, hml, hown, hts⟩ (t_X7_needFile l hl0 D cI cZ a A p0 σ c1) (va_cwS 1 hts gX7_entry_X7_needFile rfl rfl rfl (by decide +kernel) ⟨Nat.le_of_ble_eq_true rfl, Nat.le_of_ble_eq_true rfl⟩) hP hK hD hN hX hS rfl hl.1 rfl (Nat.le_of_ble_eq_true rfl) dX7_entry_1 ⟨by decide, by decide⟩ htab hlocks
  have h := ik_f c1 h
  obtain ⟨u2, eh, h⟩ := ik_bd h
  refine ik_Sv (As := [.int p0]) (rest := []) ⟨hx, hb, hml, hown, hts⟩ (c_X7_needFile l D cI cZ a A p0 σ eh) (va_cwS 1 hts gX7_entry_X7_needFile rfl rfl rfl (by decide +kernel) ⟨Nat.le_of_ble_eq_true rfl, Nat.le_of_ble_eq_true rfl⟩) hP hK hD hN hS rfl hl.1 rfl (Nat.le_of_ble_eq_true rfl) dX7_entry_1 (fun H locs hP hD hS => ?_)
  clear eh
  refine lv_iload_n hx hb dX7_entry_4 rfl (lv_at hl 2 rfl) ?_
  refine lv_bipush (v := 8) hx hb dX7_entry_5 (by decide) ?_
  by_cases c3 : tX7_needPlace p1 8 σ = some ()
  · exact xk_St (As := [.int p1, .int 8]) (rest := []) ⟨hx, hb, hml, hown, hts⟩ (t_X7_needPlace l hl0 D cI cZ a A p1 8 σ c3) (va_cwS 2 hts gX7_entry_X7_needPlace rfl rfl rfl (by decide +kernel) ⟨Nat.le_of_ble_eq_true rfl, Nat.le_of_ble_eq_true rfl⟩) hP hK hD hN hX hS rfl hl.1 rfl (Nat.le_of_ble_eq_true rfl) dX7_entry_7 ⟨by decide, by decide⟩ htab hlocks
  have h := ik_f c3 h
  obtain ⟨u4, eh, h⟩ := ik_bd h
  refine ik_Sv (As := [.int p1, .int 8]) (rest := []) ⟨hx, hb, hml, hown, hts⟩ (c_X7_needPlace l D cI cZ a A p1 8 σ eh) (va_cwS 2 hts gX7_entry_X7_needPlace rfl rfl rfl (by decide +kernel) ⟨Nat.le_of_ble_eq_true rfl, Nat.le_of_ble_eq_true rfl⟩) hP hK hD hN hS rfl hl.1 rfl (Nat.le_of_ble_eq_true rfl) dX7_entry_7 (fun H locs hP hD hS => ?_)
  clear eh
  refine lv_aload_n hx hb dX7_entry_10 rfl (lv_at hl 0 rfl) ?_
  refine va_get (D := D) (ci := 5) (v := .ref (a 1)) (C := RX7) (T := TX7) (N := 6) hx hb hts in_X7_entry_X7 hown hK hP 0 rfl rfl 0 (by decide) (hts (.fieldLink RX7 10 "ImageChecker" "tables" "LImageChecker$Tables;") (by decide +kernel)) (fun _ h9 => h9) rfl dX7_entry_11 ?_
  refine lv_iload_n hx hb dX7_entry_14 rfl (lv_at hl 1 rfl) ?_
  refine lv_iload_n hx hb dX7_entry_15 rfl (lv_at hl 2 rfl) ?_
  refine lv_iload_n hx hb dX7_entry_16 rfl (lv_at hl 3 rfl) ?_
  refine lv_iload hx hb dX7_entry_17 (lv_at hl 4 rfl) ?_
  refine lv_iload hx hb dX7_entry_19 (lv_at hl 5 rfl) ?_
  obtain ⟨σ5, eh, h⟩ := ik_bd h
  refine ik_Vv (As := [.int p0, .int p1, .int p2, .int p3, .int p4]) (rest := []) ⟨hx, hb, hml, hown, hts⟩ (c_X5_putEntry l D cI cZ a A p0 p1 p2 p3 p4 σ _ eh) (cwV 5 hts gX7_entry_X5_putEntry rfl rfl rfl (by decide +kernel) ⟨Nat.le_of_ble_eq_true rfl, Nat.le_of_ble_eq_true rfl⟩) (va_recv hK hP (ci := 3) (q0 := 1) rfl rfl) hP hK hD hN hS rfl hl.1 rfl (Nat.le_of_ble_eq_true rfl) dX7_entry_21 (fun H locs hP hD hS => ?_)
  clear eh
  cases h
abbrev rm_X7_entryOf : Room := { frames := 2, cells := 0, slots := 0, locals := 44 }
theorem in_X7_entryOf_X7 : ∀ w ∈ wsX70, w ∈ wsX7_entryOf := by decide +kernel
set_option maxHeartbeats 4000000 in
set_option maxRecDepth 100000 in
theorem c_X7_entryOf (l : Launch) (D : va_G) (cI cZ : ClassId) (a : Nat → Nat) (A : Nat → Prop) (p0 : Int32) (p1 : Int32) (p2 : Int32) (σ : ck_S) (rz : Int32) (h : fX7_entryOf p0 p1 p2 σ = some rz) : Met l yX7_entryOf wsX7_entryOf rm_X7_entryOf (va_Pc [.ref (a 0), .int p0, .int p1, .int p2] (ik_P D [(cI, .int), (cZ, .boolean)] ck_N (ck_W cI cZ a) A σ)) (ik_Qi D (ck_W cI cZ a) A rz σ) 0 0 A := by
  unfold fX7_entryOf at h
  refine Met.ofW (cc := cX7_entryOf) (maxL := 4) (ret := (some .int)) (by decide) rfl ?_
  intro p e s m args below meth c s₁ B hml hv
  obtain ⟨hAr, hP, hK, hD, hN⟩ := hv
  have hx := B.exec
  have hb := B.bytes
  have hr := B.returns
  have hts := atoms_spec (ws := wsX7_entryOf) B.pre
  have hown : s.vm.findClass RX7 = some m.cls := findClass_of_methodNamed B.named
  have hlocks := B.notSynchronized
  have hS : va_S A s.heap s.heap [] := va_S.rf
  have hl := lv_entry ([.ref (a 0), .int p0, .int p1, .int p2]) (n := 4) (Nat.le_of_ble_eq_true rfl)
  rw [show entryFrame m args 4 = entryFrame m ([.ref (a 0), .int p0, .int p1, .int p2] : List Value).toArray 4 from by rw [hAr], lg_entry_eq]
  generalize (lg_sl ([.ref (a 0), .int p0, .int p1, .int p2]) ++ List.replicate (4 - (lg_sl ([.ref (a 0), .int p0, .int p1, .int p2])).length) Slot.unset).toArray = ls at hl ⊢
  have hl : lv_has ls 4 [(0, .ref (a 0)), (1, .int p0), (2, .int p1), (3, .int p2)] := hl
  refine lv_iload_n hx hb dX7_entryOf_0 rfl (lv_at hl 1 rfl) ?_
  obtain ⟨u1, eh, h⟩ := ik_bd h
  refine ik_Sv (As := [.int p0]) (rest := []) ⟨hx, hb, hml, hown, hts⟩ (c_X7_needFile l D cI cZ a A p0 σ eh) (va_cwS 1 hts gX7_entryOf_X7_needFile rfl rfl rfl (by decide +kernel) ⟨Nat.le_of_ble_eq_true rfl, Nat.le_of_ble_eq_true rfl⟩) hP hK hD hN hS rfl hl.1 rfl (Nat.le_of_ble_eq_true rfl) dX7_entryOf_1 (fun H locs hP hD hS => ?_)
  clear eh
  refine lv_iload_n hx hb dX7_entryOf_4 rfl (lv_at hl 2 rfl) ?_
  refine lv_bipush (v := 8) hx hb dX7_entryOf_5 (by decide) ?_
  obtain ⟨u2, eh, h⟩ := ik_bd h
  refine ik_Sv (As := [.int p1, .int 8]) (rest := []) ⟨hx, hb, hml, hown, hts⟩ (c_X7_needPlace l D cI cZ a A p1 8 σ eh) (va_cwS 2 hts gX7_entryOf_X7_needPlace rfl rfl rfl (by decide +kernel) ⟨Nat.le_of_ble_eq_true rfl, Nat.le_of_ble_eq_true rfl⟩) hP hK hD hN hS rfl hl.1 rfl (Nat.le_of_ble_eq_true rfl) dX7_entryOf_7 (fun H locs hP hD hS => ?_)
  clear eh
  refine lv_iload_n hx hb dX7_entryOf_10 rfl (lv_at hl 3 rfl) ?_
  refine lv_iconst (v := 3) hx hb dX7_entryOf_11 (by decide) ?_
  obtain ⟨u3, eh, h⟩ := ik_bd h
  refine ik_Sv (As := [.int p2, .int 3]) (rest := []) ⟨hx, hb, hml, hown, hts⟩ (c_X7_needPlace l D cI cZ a A p2 3 σ eh) (va_cwS 2 hts gX7_entryOf_X7_needPlace rfl rfl rfl (by decide +kernel) ⟨Nat.le_of_ble_eq_true rfl, Nat.le_of_ble_eq_true rfl⟩) hP hK hD hN hS rfl hl.1 rfl (Nat.le_of_ble_eq_true rfl) dX7_entryOf_12 (fun H locs hP hD hS => ?_)
  clear eh
  refine lv_aload_n hx hb dX7_entryOf_15 rfl (lv_at hl 0 rfl) ?_
  refine va_get (D := D) (ci := 5) (v := .ref (a 1)) (C := RX7) (T := TX7) (N := 6) hx hb hts in_X7_entryOf_X7 hown hK hP 0 rfl rfl 0 (by decide) (hts (.fieldLink RX7 10 "ImageChecker" "tables" "LImageChecker$Tables;") (by decide +kernel)) (fun _ h9 => h9) rfl dX7_entryOf_16 ?_
  refine lv_iload_n hx hb dX7_entryOf_19 rfl (lv_at hl 1 rfl) ?_
  refine lv_iload_n hx hb dX7_entryOf_20 rfl (lv_at hl 2 rfl) ?_
  refine lv_iload_n hx hb dX7_entryOf_21 rfl (lv_at hl 3 rfl) ?_
  obtain ⟨v4, eh, h⟩ := ik_bd h
  refine ik_Vi (As := [.int p0, .int p1, .int p2]) (rest := []) ⟨hx, hb, hml, hown, hts⟩ (c_X5_entryPart l D cI cZ a A p0 p1 p2 σ _ eh) (cwV 3 hts gX7_entryOf_X5_entryPart rfl rfl rfl (by decide +kernel) ⟨Nat.le_of_ble_eq_true rfl, Nat.le_of_ble_eq_true rfl⟩) (va_recv hK hP (ci := 3) (q0 := 1) rfl rfl) hP hK hD hN hS rfl hl.1 rfl (Nat.le_of_ble_eq_true rfl) dX7_entryOf_22 (fun H locs hP hD hS => ?_)
  clear eh
  exact W.iret hx hb hr (fun t ht hW => ⟨⟨_, _, rfl, ⟨Option.some.inj h, rfl⟩, by rw [ht]; exact hP, hD⟩, hS.F ht⟩) hS.2.2 dX7_entryOf_25
abbrev rt_X7_entryOf : Room := { frames := 7, cells := 1, slots := 6, locals := 111 }
set_option maxHeartbeats 4000000 in
set_option maxRecDepth 100000 in
theorem t_X7_entryOf (l : Launch) (hl0 : l.stackTraces = false) (D : va_G) (cI cZ : ClassId) (a : Nat → Nat) (A : Nat → Prop) (p0 : Int32) (p1 : Int32) (p2 : Int32) (σ : ck_S) (h : tX7_entryOf p0 p1 p2 σ = some ()) : vx_Met l yX7_entryOf wsX7_entryOf rt_X7_entryOf (va_Pc [.ref (a 0), .int p0, .int p1, .int p2] (fun U => ik_P D [(cI, .int), (cZ, .boolean)] ck_N (ck_W cI cZ a) A σ U ∧ xk_P A U)) (xk_Qi A) (xk_X D (ck_W cI cZ a) A σ) 1 6 A := by
  unfold tX7_entryOf at h
  refine vx_ofW (cc := cX7_entryOf) (maxL := 4) (ret := (some .int)) (by decide) rfl ?_
  intro p e s m args below meth c s₁ B hml htab hv
  obtain ⟨hAr, ⟨hP, hK, hD, hN⟩, hX⟩ := hv
  have hx := B.exec
  have hb := B.bytes
  have hr := B.returns
  have hts := atoms_spec (ws := wsX7_entryOf) B.pre
  have hown : s.vm.findClass RX7 = some m.cls := findClass_of_methodNamed B.named
  have hlocks := B.notSynchronized
  have hS : va_S A s.heap s.heap [] := va_S.rf
  have hl := lv_entry ([.ref (a 0), .int p0, .int p1, .int p2]) (n := 4) (Nat.le_of_ble_eq_true rfl)
  rw [show entryFrame m args 4 = entryFrame m ([.ref (a 0), .int p0, .int p1, .int p2] : List Value).toArray 4 from by rw [hAr], lg_entry_eq]
  generalize (lg_sl ([.ref (a 0), .int p0, .int p1, .int p2]) ++ List.replicate (4 - (lg_sl ([.ref (a 0), .int p0, .int p1, .int p2])).length) Slot.unset).toArray = ls at hl ⊢
  have hl : lv_has ls 4 [(0, .ref (a 0)), (1, .int p0), (2, .int p1), (3, .int p2)] := hl
  refine lv_iload_n hx hb dX7_entryOf_0 rfl (lv_at hl 1 rfl) ?_
  by_cases c1 : tX7_needFile p0 σ = some ()
  · exact xk_St (As := [.int p0]) (rest := []) ⟨hx, hb, hml, hown, hts⟩ (t_X7_needFile l hl0 D cI cZ a A p0 σ c1) (va_cwS 1 hts gX7_entryOf_X7_needFile rfl rfl rfl (by decide +kernel) ⟨Nat.le_of_ble_eq_true rfl, Nat.le_of_ble_eq_true rfl⟩) hP hK hD hN hX hS rfl hl.1 rfl (Nat.le_of_ble_eq_true rfl) dX7_entryOf_1 ⟨by decide, by decide⟩ htab hlocks
  have h := ik_f c1 h
  obtain ⟨u2, eh, h⟩ := ik_bd h
  refine ik_Sv (As := [.int p0]) (rest := []) ⟨hx, hb, hml, hown, hts⟩ (c_X7_needFile l D cI cZ a A p0 σ eh) (va_cwS 1 hts gX7_entryOf_X7_needFile rfl rfl rfl (by decide +kernel) ⟨Nat.le_of_ble_eq_true rfl, Nat.le_of_ble_eq_true rfl⟩) hP hK hD hN hS rfl hl.1 rfl (Nat.le_of_ble_eq_true rfl) dX7_entryOf_1 (fun H locs hP hD hS => ?_)
  clear eh
  refine lv_iload_n hx hb dX7_entryOf_4 rfl (lv_at hl 2 rfl) ?_
  refine lv_bipush (v := 8) hx hb dX7_entryOf_5 (by decide) ?_
  by_cases c3 : tX7_needPlace p1 8 σ = some ()
  · exact xk_St (As := [.int p1, .int 8]) (rest := []) ⟨hx, hb, hml, hown, hts⟩ (t_X7_needPlace l hl0 D cI cZ a A p1 8 σ c3) (va_cwS 2 hts gX7_entryOf_X7_needPlace rfl rfl rfl (by decide +kernel) ⟨Nat.le_of_ble_eq_true rfl, Nat.le_of_ble_eq_true rfl⟩) hP hK hD hN hX hS rfl hl.1 rfl (Nat.le_of_ble_eq_true rfl) dX7_entryOf_7 ⟨by decide, by decide⟩ htab hlocks
  have h := ik_f c3 h
  obtain ⟨u4, eh, h⟩ := ik_bd h
  refine ik_Sv (As := [.int p1, .int 8]) (rest := []) ⟨hx, hb, hml, hown, hts⟩ (c_X7_needPlace l D cI cZ a A p1 8 σ eh) (va_cwS 2 hts gX7_entryOf_X7_needPlace rfl rfl rfl (by decide +kernel) ⟨Nat.le_of_ble_eq_true rfl, Nat.le_of_ble_eq_true rfl⟩) hP hK hD hN hS rfl hl.1 rfl (Nat.le_of_ble_eq_true rfl) dX7_entryOf_7 (fun H locs hP hD hS => ?_)
  clear eh
  refine lv_iload_n hx hb dX7_entryOf_10 rfl (lv_at hl 3 rfl) ?_
  refine lv_iconst (v := 3) hx hb dX7_entryOf_11 (by decide) ?_
  by_cases c5 : tX7_needPlace p2 3 σ = some ()
  · exact xk_St (As := [.int p2, .int 3]) (rest := []) ⟨hx, hb, hml, hown, hts⟩ (t_X7_needPlace l hl0 D cI cZ a A p2 3 σ c5) (va_cwS 2 hts gX7_entryOf_X7_needPlace rfl rfl rfl (by decide +kernel) ⟨Nat.le_of_ble_eq_true rfl, Nat.le_of_ble_eq_true rfl⟩) hP hK hD hN hX hS rfl hl.1 rfl (Nat.le_of_ble_eq_true rfl) dX7_entryOf_12 ⟨by decide, by decide⟩ htab hlocks
  have h := ik_f c5 h
  obtain ⟨u6, eh, h⟩ := ik_bd h
  refine ik_Sv (As := [.int p2, .int 3]) (rest := []) ⟨hx, hb, hml, hown, hts⟩ (c_X7_needPlace l D cI cZ a A p2 3 σ eh) (va_cwS 2 hts gX7_entryOf_X7_needPlace rfl rfl rfl (by decide +kernel) ⟨Nat.le_of_ble_eq_true rfl, Nat.le_of_ble_eq_true rfl⟩) hP hK hD hN hS rfl hl.1 rfl (Nat.le_of_ble_eq_true rfl) dX7_entryOf_12 (fun H locs hP hD hS => ?_)
  clear eh
  refine lv_aload_n hx hb dX7_entryOf_15 rfl (lv_at hl 0 rfl) ?_
  refine va_get (D := D) (ci := 5) (v := .ref (a 1)) (C := RX7) (T := TX7) (N := 6) hx hb hts in_X7_entryOf_X7 hown hK hP 0 rfl rfl 0 (by decide) (hts (.fieldLink RX7 10 "ImageChecker" "tables" "LImageChecker$Tables;") (by decide +kernel)) (fun _ h9 => h9) rfl dX7_entryOf_16 ?_
  refine lv_iload_n hx hb dX7_entryOf_19 rfl (lv_at hl 1 rfl) ?_
  refine lv_iload_n hx hb dX7_entryOf_20 rfl (lv_at hl 2 rfl) ?_
  refine lv_iload_n hx hb dX7_entryOf_21 rfl (lv_at hl 3 rfl) ?_
  obtain ⟨v7, eh, h⟩ := ik_bd h
  refine ik_Vi (As := [.int p0, .int p1, .int p2]) (rest := []) ⟨hx, hb, hml, hown, hts⟩ (c_X5_entryPart l D cI cZ a A p0 p1 p2 σ _ eh) (cwV 3 hts gX7_entryOf_X5_entryPart rfl rfl rfl (by decide +kernel) ⟨Nat.le_of_ble_eq_true rfl, Nat.le_of_ble_eq_true rfl⟩) (va_recv hK hP (ci := 3) (q0 := 1) rfl rfl) hP hK hD hN hS rfl hl.1 rfl (Nat.le_of_ble_eq_true rfl) dX7_entryOf_22 (fun H locs hP hD hS => ?_)
  clear eh
  cases h
