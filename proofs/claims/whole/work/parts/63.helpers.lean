def lk_out (f : Nat → Int64) (x : Int64) : Nat → Int64 := vp_updL f (0 : Int32).toNatClampNeg x
def lk_z (r : Int32) : Int64 := if r = 0 then 0 else 1
abbrev rm_L_set : Room := { frames := 3, cells := 0, slots := 0, locals := 66 }
set_option maxHeartbeats 4000000 in
set_option maxRecDepth 100000 in
theorem c_L_set (l : Launch) (D : va_G) (cI cZ cJ : ClassId) (a b : Nat → Nat) (o : Nat) (A : Nat → Prop) (p0 : Int32) (p1 : Int32) (p2 : Int32) (σ : ck_S) (σ1 : ck_S) (ρ : mk_S) (f : Nat → Int64) (h : fX7_set p0 p1 p2 σ = some σ1) : Met l yL_set wsL_set rm_L_set (va_Pc [.ref (a 0), .int p0, .int p1, .int p2] (ik_P D (lk_T cI cZ cJ) ck_N (lk_W cI cZ cJ a b o) A (σ, ρ, f))) (ik_Qi D (lk_W cI cZ cJ a b o) A 0 (σ1, ρ, f)) 0 0 A := by
  refine va_MetW (hh := [(0, 7, 10, 13)]) (cc := cL_set) (maxL := 5) (ret := (some .int)) (by decide) rfl ?_
  intro p e s m args below meth c s₁ B hml hv
  obtain ⟨hAr, hP, hK, hD, hN⟩ := hv
  have hx := B.exec
  have hb := B.bytes
  have hr := B.returns
  have hts := atoms_spec (ws := wsL_set) B.pre
  have hown : s.vm.findClass RL = some m.cls := findClass_of_methodNamed B.named
  have hlocks := B.notSynchronized
  have hS : va_S A s.heap s.heap [] := va_S.rf
  have hl := lv_entry ([.ref (a 0), .int p0, .int p1, .int p2]) (n := 5) (Nat.le_of_ble_eq_true rfl)
  rw [show entryFrame m args 5 = entryFrame m ([.ref (a 0), .int p0, .int p1, .int p2] : List Value).toArray 5 from by rw [hAr], lg_entry_eq]
  generalize (lg_sl ([.ref (a 0), .int p0, .int p1, .int p2]) ++ List.replicate (5 - (lg_sl ([.ref (a 0), .int p0, .int p1, .int p2])).length) Slot.unset).toArray = ls at hl ⊢
  have hl : lv_has ls 5 [(0, .ref (a 0)), (1, .int p0), (2, .int p1), (3, .int p2)] := hl
  refine lv_aload_n hx hb dL_set_0 rfl (lv_at hl 0 rfl) ?_
  refine lv_iload_n hx hb dL_set_1 rfl (lv_at hl 1 rfl) ?_
  refine lv_iload_n hx hb dL_set_2 rfl (lv_at hl 2 rfl) ?_
  refine lv_iload_n hx hb dL_set_3 rfl (lv_at hl 3 rfl) ?_
  refine ik_Vv (As := [.int p0, .int p1, .int p2]) (rest := []) ⟨hx, hb, hml, hown, hts⟩ (fr_v (isT := [0, 1]) (fun A => c_X7_set l D cI cZ a A p0 p1 p2 σ σ1 h) (lk_em cI cZ cJ a b o σ σ1 ρ f) rfl (fun _ h => h) A) (cwV 3 hts gL_set_X7_set rfl rfl rfl (by decide +kernel) ⟨Nat.le_of_ble_eq_true rfl, Nat.le_of_ble_eq_true rfl⟩) (va_recv hK hP (ci := 5) (q0 := 0) rfl rfl) hP hK hD hN hS rfl hl.1 rfl (Nat.le_of_ble_eq_true rfl) dL_set_4 (fun H locs hP hD hS => ?_)
  refine lv_goto (tgt := 14) hx hb dL_set_7 (by decide) ?_
  refine lv_iconst (v := 0) hx hb dL_set_14 (by decide) ?_
  exact W.iret hx hb hr (fun t ht hW => ⟨⟨_, _, rfl, ⟨rfl, rfl⟩, by rw [ht]; exact hP, hD⟩, hS.F ht⟩) hS.2.2 dL_set_15
abbrev rt_L_set : Room := { frames := 8, cells := 1, slots := 6, locals := 134 }
set_option maxHeartbeats 4000000 in
set_option maxRecDepth 100000 in
theorem t_L_set (l : Launch) (hl0 : l.stackTraces = false) (D : va_G) (cI cZ cJ : ClassId) (a b : Nat → Nat) (o : Nat) (A : Nat → Prop) (p0 : Int32) (p1 : Int32) (p2 : Int32) (σ : ck_S) (ρ : mk_S) (f : Nat → Int64) (h : tX7_set p0 p1 p2 σ = some ()) : Met l yL_set wsL_set rt_L_set (va_Pc [.ref (a 0), .int p0, .int p1, .int p2] (fun U => ik_P D (lk_T cI cZ cJ) ck_N (lk_W cI cZ cJ a b o) A (σ, ρ, f) U ∧ xk_P A U)) (ik_Qi D (lk_W cI cZ cJ a b o) A 1 (σ, ρ, f)) 1 6 A := by
  refine va_MetW (hh := [(0, 7, 10, 13)]) (cc := cL_set) (maxL := 5) (ret := (some .int)) (by decide) rfl ?_
  intro p e s m args below meth c s₁ B hml hv
  obtain ⟨hAr, ⟨hP, hK, hD, hN⟩, hX⟩ := hv
  have hx := B.exec
  have hb := B.bytes
  have hr := B.returns
  have hts := atoms_spec (ws := wsL_set) B.pre
  have hown : s.vm.findClass RL = some m.cls := findClass_of_methodNamed B.named
  have hlocks := B.notSynchronized
  have htab := vx_table (x := yL_set) B (hts _ List.mem_cons_self)
  have hS : va_S A s.heap s.heap [] := va_S.rf
  have hl := lv_entry ([.ref (a 0), .int p0, .int p1, .int p2]) (n := 5) (Nat.le_of_ble_eq_true rfl)
  rw [show entryFrame m args 5 = entryFrame m ([.ref (a 0), .int p0, .int p1, .int p2] : List Value).toArray 5 from by rw [hAr], lg_entry_eq]
  generalize (lg_sl ([.ref (a 0), .int p0, .int p1, .int p2]) ++ List.replicate (5 - (lg_sl ([.ref (a 0), .int p0, .int p1, .int p2])).length) Slot.unset).toArray = ls at hl ⊢
  have hl : lv_has ls 5 [(0, .ref (a 0)), (1, .int p0), (2, .int p1), (3, .int p2)] := hl
  refine lv_aload_n hx hb dL_set_0 rfl (lv_at hl 0 rfl) ?_
  refine lv_iload_n hx hb dL_set_1 rfl (lv_at hl 1 rfl) ?_
  refine lv_iload_n hx hb dL_set_2 rfl (lv_at hl 2 rfl) ?_
  refine lv_iload_n hx hb dL_set_3 rfl (lv_at hl 3 rfl) ?_
  refine vx_callv (vx_runV (As := [.int p0, .int p1, .int p2]) (rest := []) ⟨hx, hb, hml, hown, hts⟩ (fr_xv (isT := [0, 1]) (fun A => t_X7_set l hl0 D cI cZ a A p0 p1 p2 σ h) (lk_em cI cZ cJ a b o σ σ ρ f) rfl (fun _ h => h) A) (cwV 3 hts gL_set_X7_set rfl rfl rfl (by decide +kernel) ⟨Nat.le_of_ble_eq_true rfl, Nat.le_of_ble_eq_true rfl⟩) ⟨xk_blind, (va_recv hK hP (ci := 5) (q0 := 0) rfl rfl), xk_pre hP hK hD hN hX hS⟩ rfl rfl hl.1 rfl (lv_room (Nat.le_of_ble_eq_true rfl)) dL_set_4 ⟨by decide, by decide⟩) hS (fun q _ h => h) (fun q h => h) (fun q _ h => h) (fun E ce q9 u t H1 locs1 ht hvm hpx hBX hz hk hS hce hcv hcl => ?_) (fun u t H1 locs1 ht hvm hp => hp.elim)
  subst hpx
  obtain ⟨hE, hP, hD⟩ := hBX
  rw [ht] at hP
  rw [hE] at hcl
  refine xk_catch (x := { startPc := 0, endPc := 7, handlerPc := 10, catchType := 13 }) hown htab (by decide) (by decide) (hts (.classLink RL 13 xk_E) (by decide +kernel)) hX.2.2.1.1 hce hcv hcl ?_
  refine lv_astore (lv' := [(4, .ref q9), (0, .ref (a 0)), (1, .int p0), (2, .int p1), (3, .int p2)]) hx hb dL_set_10 hl (by decide) rfl (fun ls hl => ?_)
  refine lv_iconst (v := 1) hx hb dL_set_12 (by decide) ?_
  exact W.iret hx hb hr (fun t ht hW => ⟨⟨_, _, rfl, ⟨rfl, rfl⟩, by rw [ht]; exact hP, hD⟩, hS.F ht⟩) hS.2.2 dL_set_13
abbrev rm_L_run : Room := { frames := 3, cells := 0, slots := 0, locals := 72 }
set_option maxHeartbeats 4000000 in
set_option maxRecDepth 100000 in
theorem c_L_run (l : Launch) (D : va_G) (cI cZ cJ : ClassId) (a b : Nat → Nat) (o : Nat) (A : Nat → Prop) (p0 : Int32) (p1 : Int32) (p2 : Int32) (p3 : Int32) (p4 : Int32) (σ : ck_S) (σ1 : ck_S) (ρ : mk_S) (f : Nat → Int64) (h : fX7_run p0 p1 p2 p3 p4 σ = some σ1) : Met l yL_run wsL_run rm_L_run (va_Pc [.ref (a 0), .int p0, .int p1, .int p2, .int p3, .int p4] (ik_P D (lk_T cI cZ cJ) ck_N (lk_W cI cZ cJ a b o) A (σ, ρ, f))) (ik_Qi D (lk_W cI cZ cJ a b o) A 0 (σ1, ρ, f)) 0 0 A := by
  refine va_MetW (hh := [(0, 11, 14, 13)]) (cc := cL_run) (maxL := 7) (ret := (some .int)) (by decide) rfl ?_
  intro p e s m args below meth c s₁ B hml hv
  obtain ⟨hAr, hP, hK, hD, hN⟩ := hv
  have hx := B.exec
  have hb := B.bytes
  have hr := B.returns
  have hts := atoms_spec (ws := wsL_run) B.pre
  have hown : s.vm.findClass RL = some m.cls := findClass_of_methodNamed B.named
  have hlocks := B.notSynchronized
  have hS : va_S A s.heap s.heap [] := va_S.rf
  have hl := lv_entry ([.ref (a 0), .int p0, .int p1, .int p2, .int p3, .int p4]) (n := 7) (Nat.le_of_ble_eq_true rfl)
  rw [show entryFrame m args 7 = entryFrame m ([.ref (a 0), .int p0, .int p1, .int p2, .int p3, .int p4] : List Value).toArray 7 from by rw [hAr], lg_entry_eq]
  generalize (lg_sl ([.ref (a 0), .int p0, .int p1, .int p2, .int p3, .int p4]) ++ List.replicate (7 - (lg_sl ([.ref (a 0), .int p0, .int p1, .int p2, .int p3, .int p4])).length) Slot.unset).toArray = ls at hl ⊢
  have hl : lv_has ls 7 [(0, .ref (a 0)), (1, .int p0), (2, .int p1), (3, .int p2), (4, .int p3), (5, .int p4)] := hl
  refine lv_aload_n hx hb dL_run_0 rfl (lv_at hl 0 rfl) ?_
  refine lv_iload_n hx hb dL_run_1 rfl (lv_at hl 1 rfl) ?_
  refine lv_iload_n hx hb dL_run_2 rfl (lv_at hl 2 rfl) ?_
  refine lv_iload_n hx hb dL_run_3 rfl (lv_at hl 3 rfl) ?_
  refine lv_iload hx hb dL_run_4 (lv_at hl 4 rfl) ?_
  refine lv_iload hx hb dL_run_6 (lv_at hl 5 rfl) ?_
  refine ik_Vv (As := [.int p0, .int p1, .int p2, .int p3, .int p4]) (rest := []) ⟨hx, hb, hml, hown, hts⟩ (fr_v (isT := [0, 1]) (fun A => c_X7_run l D cI cZ a A p0 p1 p2 p3 p4 σ σ1 h) (lk_em cI cZ cJ a b o σ σ1 ρ f) rfl (fun _ h => h) A) (cwV 5 hts gL_run_X7_run rfl rfl rfl (by decide +kernel) ⟨Nat.le_of_ble_eq_true rfl, Nat.le_of_ble_eq_true rfl⟩) (va_recv hK hP (ci := 5) (q0 := 0) rfl rfl) hP hK hD hN hS rfl hl.1 rfl (Nat.le_of_ble_eq_true rfl) dL_run_8 (fun H locs hP hD hS => ?_)
  refine lv_goto (tgt := 18) hx hb dL_run_11 (by decide) ?_
  refine lv_iconst (v := 0) hx hb dL_run_18 (by decide) ?_
  exact W.iret hx hb hr (fun t ht hW => ⟨⟨_, _, rfl, ⟨rfl, rfl⟩, by rw [ht]; exact hP, hD⟩, hS.F ht⟩) hS.2.2 dL_run_19
abbrev rt_L_run : Room := { frames := 8, cells := 1, slots := 6, locals := 136 }
set_option maxHeartbeats 4000000 in
set_option maxRecDepth 100000 in
theorem t_L_run (l : Launch) (hl0 : l.stackTraces = false) (D : va_G) (cI cZ cJ : ClassId) (a b : Nat → Nat) (o : Nat) (A : Nat → Prop) (p0 : Int32) (p1 : Int32) (p2 : Int32) (p3 : Int32) (p4 : Int32) (σ : ck_S) (ρ : mk_S) (f : Nat → Int64) (h : tX7_run p0 p1 p2 p3 p4 σ = some ()) : Met l yL_run wsL_run rt_L_run (va_Pc [.ref (a 0), .int p0, .int p1, .int p2, .int p3, .int p4] (fun U => ik_P D (lk_T cI cZ cJ) ck_N (lk_W cI cZ cJ a b o) A (σ, ρ, f) U ∧ xk_P A U)) (ik_Qi D (lk_W cI cZ cJ a b o) A 1 (σ, ρ, f)) 1 6 A := by
  refine va_MetW (hh := [(0, 11, 14, 13)]) (cc := cL_run) (maxL := 7) (ret := (some .int)) (by decide) rfl ?_
  intro p e s m args below meth c s₁ B hml hv
  obtain ⟨hAr, ⟨hP, hK, hD, hN⟩, hX⟩ := hv
  have hx := B.exec
  have hb := B.bytes
  have hr := B.returns
  have hts := atoms_spec (ws := wsL_run) B.pre
  have hown : s.vm.findClass RL = some m.cls := findClass_of_methodNamed B.named
  have hlocks := B.notSynchronized
  have htab := vx_table (x := yL_run) B (hts _ List.mem_cons_self)
  have hS : va_S A s.heap s.heap [] := va_S.rf
  have hl := lv_entry ([.ref (a 0), .int p0, .int p1, .int p2, .int p3, .int p4]) (n := 7) (Nat.le_of_ble_eq_true rfl)
  rw [show entryFrame m args 7 = entryFrame m ([.ref (a 0), .int p0, .int p1, .int p2, .int p3, .int p4] : List Value).toArray 7 from by rw [hAr], lg_entry_eq]
  generalize (lg_sl ([.ref (a 0), .int p0, .int p1, .int p2, .int p3, .int p4]) ++ List.replicate (7 - (lg_sl ([.ref (a 0), .int p0, .int p1, .int p2, .int p3, .int p4])).length) Slot.unset).toArray = ls at hl ⊢
  have hl : lv_has ls 7 [(0, .ref (a 0)), (1, .int p0), (2, .int p1), (3, .int p2), (4, .int p3), (5, .int p4)] := hl
  refine lv_aload_n hx hb dL_run_0 rfl (lv_at hl 0 rfl) ?_
  refine lv_iload_n hx hb dL_run_1 rfl (lv_at hl 1 rfl) ?_
  refine lv_iload_n hx hb dL_run_2 rfl (lv_at hl 2 rfl) ?_
  refine lv_iload_n hx hb dL_run_3 rfl (lv_at hl 3 rfl) ?_
  refine lv_iload hx hb dL_run_4 (lv_at hl 4 rfl) ?_
  refine lv_iload hx hb dL_run_6 (lv_at hl 5 rfl) ?_
  refine vx_callv (vx_runV (As := [.int p0, .int p1, .int p2, .int p3, .int p4]) (rest := []) ⟨hx, hb, hml, hown, hts⟩ (fr_xv (isT := [0, 1]) (fun A => t_X7_run l hl0 D cI cZ a A p0 p1 p2 p3 p4 σ h) (lk_em cI cZ cJ a b o σ σ ρ f) rfl (fun _ h => h) A) (cwV 5 hts gL_run_X7_run rfl rfl rfl (by decide +kernel) ⟨Nat.le_of_ble_eq_true rfl, Nat.le_of_ble_eq_true rfl⟩) ⟨xk_blind, (va_recv hK hP (ci := 5) (q0 := 0) rfl rfl), xk_pre hP hK hD hN hX hS⟩ rfl rfl hl.1 rfl (lv_room (Nat.le_of_ble_eq_true rfl)) dL_run_8 ⟨by decide, by decide⟩) hS (fun q _ h => h) (fun q h => h) (fun q _ h => h) (fun E ce q9 u t H1 locs1 ht hvm hpx hBX hz hk hS hce hcv hcl => ?_) (fun u t H1 locs1 ht hvm hp => hp.elim)
  subst hpx
  obtain ⟨hE, hP, hD⟩ := hBX
  rw [ht] at hP
  rw [hE] at hcl
  refine xk_catch (x := { startPc := 0, endPc := 11, handlerPc := 14, catchType := 13 }) hown htab (by decide) (by decide) (hts (.classLink RL 13 xk_E) (by decide +kernel)) hX.2.2.1.1 hce hcv hcl ?_
  refine lv_astore (lv' := [(6, .ref q9), (0, .ref (a 0)), (1, .int p0), (2, .int p1), (3, .int p2), (4, .int p3), (5, .int p4)]) hx hb dL_run_14 hl (by decide) rfl (fun ls hl => ?_)
  refine lv_iconst (v := 1) hx hb dL_run_16 (by decide) ?_
  exact W.iret hx hb hr (fun t ht hW => ⟨⟨_, _, rfl, ⟨rfl, rfl⟩, by rw [ht]; exact hP, hD⟩, hS.F ht⟩) hS.2.2 dL_run_17
abbrev rm_L_entry : Room := { frames := 3, cells := 0, slots := 0, locals := 72 }
set_option maxHeartbeats 4000000 in
set_option maxRecDepth 100000 in
theorem c_L_entry (l : Launch) (D : va_G) (cI cZ cJ : ClassId) (a b : Nat → Nat) (o : Nat) (A : Nat → Prop) (p0 : Int32) (p1 : Int32) (p2 : Int32) (p3 : Int32) (p4 : Int32) (σ : ck_S) (σ1 : ck_S) (ρ : mk_S) (f : Nat → Int64) (h : fX7_entry p0 p1 p2 p3 p4 σ = some σ1) : Met l yL_entry wsL_entry rm_L_entry (va_Pc [.ref (a 0), .int p0, .int p1, .int p2, .int p3, .int p4] (ik_P D (lk_T cI cZ cJ) ck_N (lk_W cI cZ cJ a b o) A (σ, ρ, f))) (ik_Qi D (lk_W cI cZ cJ a b o) A 0 (σ1, ρ, f)) 0 0 A := by
  refine va_MetW (hh := [(0, 11, 14, 13)]) (cc := cL_entry) (maxL := 7) (ret := (some .int)) (by decide) rfl ?_
  intro p e s m args below meth c s₁ B hml hv
  obtain ⟨hAr, hP, hK, hD, hN⟩ := hv
  have hx := B.exec
  have hb := B.bytes
  have hr := B.returns
  have hts := atoms_spec (ws := wsL_entry) B.pre
  have hown : s.vm.findClass RL = some m.cls := findClass_of_methodNamed B.named
  have hlocks := B.notSynchronized
  have hS : va_S A s.heap s.heap [] := va_S.rf
  have hl := lv_entry ([.ref (a 0), .int p0, .int p1, .int p2, .int p3, .int p4]) (n := 7) (Nat.le_of_ble_eq_true rfl)
  rw [show entryFrame m args 7 = entryFrame m ([.ref (a 0), .int p0, .int p1, .int p2, .int p3, .int p4] : List Value).toArray 7 from by rw [hAr], lg_entry_eq]
  generalize (lg_sl ([.ref (a 0), .int p0, .int p1, .int p2, .int p3, .int p4]) ++ List.replicate (7 - (lg_sl ([.ref (a 0), .int p0, .int p1, .int p2, .int p3, .int p4])).length) Slot.unset).toArray = ls at hl ⊢
  have hl : lv_has ls 7 [(0, .ref (a 0)), (1, .int p0), (2, .int p1), (3, .int p2), (4, .int p3), (5, .int p4)] := hl
  refine lv_aload_n hx hb dL_entry_0 rfl (lv_at hl 0 rfl) ?_
  refine lv_iload_n hx hb dL_entry_1 rfl (lv_at hl 1 rfl) ?_
  refine lv_iload_n hx hb dL_entry_2 rfl (lv_at hl 2 rfl) ?_
  refine lv_iload_n hx hb dL_entry_3 rfl (lv_at hl 3 rfl) ?_
  refine lv_iload hx hb dL_entry_4 (lv_at hl 4 rfl) ?_
  refine lv_iload hx hb dL_entry_6 (lv_at hl 5 rfl) ?_
  refine ik_Vv (As := [.int p0, .int p1, .int p2, .int p3, .int p4]) (rest := []) ⟨hx, hb, hml, hown, hts⟩ (fr_v (isT := [0, 1]) (fun A => c_X7_entry l D cI cZ a A p0 p1 p2 p3 p4 σ σ1 h) (lk_em cI cZ cJ a b o σ σ1 ρ f) rfl (fun _ h => h) A) (cwV 5 hts gL_entry_X7_entry rfl rfl rfl (by decide +kernel) ⟨Nat.le_of_ble_eq_true rfl, Nat.le_of_ble_eq_true rfl⟩) (va_recv hK hP (ci := 5) (q0 := 0) rfl rfl) hP hK hD hN hS rfl hl.1 rfl (Nat.le_of_ble_eq_true rfl) dL_entry_8 (fun H locs hP hD hS => ?_)
  refine lv_goto (tgt := 18) hx hb dL_entry_11 (by decide) ?_
  refine lv_iconst (v := 0) hx hb dL_entry_18 (by decide) ?_
  exact W.iret hx hb hr (fun t ht hW => ⟨⟨_, _, rfl, ⟨rfl, rfl⟩, by rw [ht]; exact hP, hD⟩, hS.F ht⟩) hS.2.2 dL_entry_19
abbrev rt_L_entry : Room := { frames := 8, cells := 1, slots := 6, locals := 136 }
set_option maxHeartbeats 4000000 in
set_option maxRecDepth 100000 in
theorem t_L_entry (l : Launch) (hl0 : l.stackTraces = false) (D : va_G) (cI cZ cJ : ClassId) (a b : Nat → Nat) (o : Nat) (A : Nat → Prop) (p0 : Int32) (p1 : Int32) (p2 : Int32) (p3 : Int32) (p4 : Int32) (σ : ck_S) (ρ : mk_S) (f : Nat → Int64) (h : tX7_entry p0 p1 p2 p3 p4 σ = some ()) : Met l yL_entry wsL_entry rt_L_entry (va_Pc [.ref (a 0), .int p0, .int p1, .int p2, .int p3, .int p4] (fun U => ik_P D (lk_T cI cZ cJ) ck_N (lk_W cI cZ cJ a b o) A (σ, ρ, f) U ∧ xk_P A U)) (ik_Qi D (lk_W cI cZ cJ a b o) A 1 (σ, ρ, f)) 1 6 A := by
  refine va_MetW (hh := [(0, 11, 14, 13)]) (cc := cL_entry) (maxL := 7) (ret := (some .int)) (by decide) rfl ?_
  intro p e s m args below meth c s₁ B hml hv
  obtain ⟨hAr, ⟨hP, hK, hD, hN⟩, hX⟩ := hv
  have hx := B.exec
  have hb := B.bytes
  have hr := B.returns
  have hts := atoms_spec (ws := wsL_entry) B.pre
  have hown : s.vm.findClass RL = some m.cls := findClass_of_methodNamed B.named
  have hlocks := B.notSynchronized
  have htab := vx_table (x := yL_entry) B (hts _ List.mem_cons_self)
  have hS : va_S A s.heap s.heap [] := va_S.rf
  have hl := lv_entry ([.ref (a 0), .int p0, .int p1, .int p2, .int p3, .int p4]) (n := 7) (Nat.le_of_ble_eq_true rfl)
  rw [show entryFrame m args 7 = entryFrame m ([.ref (a 0), .int p0, .int p1, .int p2, .int p3, .int p4] : List Value).toArray 7 from by rw [hAr], lg_entry_eq]
  generalize (lg_sl ([.ref (a 0), .int p0, .int p1, .int p2, .int p3, .int p4]) ++ List.replicate (7 - (lg_sl ([.ref (a 0), .int p0, .int p1, .int p2, .int p3, .int p4])).length) Slot.unset).toArray = ls at hl ⊢
  have hl : lv_has ls 7 [(0, .ref (a 0)), (1, .int p0), (2, .int p1), (3, .int p2), (4, .int p3), (5, .int p4)] := hl
  refine lv_aload_n hx hb dL_entry_0 rfl (lv_at hl 0 rfl) ?_
  refine lv_iload_n hx hb dL_entry_1 rfl (lv_at hl 1 rfl) ?_
  refine lv_iload_n hx hb dL_entry_2 rfl (lv_at hl 2 rfl) ?_
  refine lv_iload_n hx hb dL_entry_3 rfl (lv_at hl 3 rfl) ?_
  refine lv_iload hx hb dL_entry_4 (lv_at hl 4 rfl) ?_
  refine lv_iload hx hb dL_entry_6 (lv_at hl 5 rfl) ?_
  refine vx_callv (vx_runV (As := [.int p0, .int p1, .int p2, .int p3, .int p4]) (rest := []) ⟨hx, hb, hml, hown, hts⟩ (fr_xv (isT := [0, 1]) (fun A => t_X7_entry l hl0 D cI cZ a A p0 p1 p2 p3 p4 σ h) (lk_em cI cZ cJ a b o σ σ ρ f) rfl (fun _ h => h) A) (cwV 5 hts gL_entry_X7_entry rfl rfl rfl (by decide +kernel) ⟨Nat.le_of_ble_eq_true rfl, Nat.le_of_ble_eq_true rfl⟩) ⟨xk_blind, (va_recv hK hP (ci := 5) (q0 := 0) rfl rfl), xk_pre hP hK hD hN hX hS⟩ rfl rfl hl.1 rfl (lv_room (Nat.le_of_ble_eq_true rfl)) dL_entry_8 ⟨by decide, by decide⟩) hS (fun q _ h => h) (fun q h => h) (fun q _ h => h) (fun E ce q9 u t H1 locs1 ht hvm hpx hBX hz hk hS hce hcv hcl => ?_) (fun u t H1 locs1 ht hvm hp => hp.elim)
  subst hpx
  obtain ⟨hE, hP, hD⟩ := hBX
  rw [ht] at hP
  rw [hE] at hcl
  refine xk_catch (x := { startPc := 0, endPc := 11, handlerPc := 14, catchType := 13 }) hown htab (by decide) (by decide) (hts (.classLink RL 13 xk_E) (by decide +kernel)) hX.2.2.1.1 hce hcv hcl ?_
  refine lv_astore (lv' := [(6, .ref q9), (0, .ref (a 0)), (1, .int p0), (2, .int p1), (3, .int p2), (4, .int p3), (5, .int p4)]) hx hb dL_entry_14 hl (by decide) rfl (fun ls hl => ?_)
  refine lv_iconst (v := 1) hx hb dL_entry_16 (by decide) ?_
  exact W.iret hx hb hr (fun t ht hW => ⟨⟨_, _, rfl, ⟨rfl, rfl⟩, by rw [ht]; exact hP, hD⟩, hS.F ht⟩) hS.2.2 dL_entry_17
abbrev rm_L_hold : Room := { frames := 3, cells := 0, slots := 0, locals := 62 }
set_option maxHeartbeats 4000000 in
set_option maxRecDepth 100000 in
theorem c_L_hold (l : Launch) (D : va_G) (cI cZ cJ : ClassId) (a b : Nat → Nat) (o : Nat) (A : Nat → Prop) (p0 : Int32) (p1 : Int32) (σ : ck_S) (σ1 : ck_S) (ρ : mk_S) (f : Nat → Int64) (h : fX7_hold p0 p1 σ = some σ1) : Met l yL_hold wsL_hold rm_L_hold (va_Pc [.ref (a 0), .int p0, .int p1] (ik_P D (lk_T cI cZ cJ) ck_N (lk_W cI cZ cJ a b o) A (σ, ρ, f))) (ik_Qi D (lk_W cI cZ cJ a b o) A 0 (σ1, ρ, f)) 0 0 A := by
  refine va_MetW (hh := [(0, 6, 9, 13)]) (cc := cL_hold) (maxL := 4) (ret := (some .int)) (by decide) rfl ?_
  intro p e s m args below meth c s₁ B hml hv
  obtain ⟨hAr, hP, hK, hD, hN⟩ := hv
  have hx := B.exec
  have hb := B.bytes
  have hr := B.returns
  have hts := atoms_spec (ws := wsL_hold) B.pre
  have hown : s.vm.findClass RL = some m.cls := findClass_of_methodNamed B.named
  have hlocks := B.notSynchronized
  have hS : va_S A s.heap s.heap [] := va_S.rf
  have hl := lv_entry ([.ref (a 0), .int p0, .int p1]) (n := 4) (Nat.le_of_ble_eq_true rfl)
  rw [show entryFrame m args 4 = entryFrame m ([.ref (a 0), .int p0, .int p1] : List Value).toArray 4 from by rw [hAr], lg_entry_eq]
  generalize (lg_sl ([.ref (a 0), .int p0, .int p1]) ++ List.replicate (4 - (lg_sl ([.ref (a 0), .int p0, .int p1])).length) Slot.unset).toArray = ls at hl ⊢
  have hl : lv_has ls 4 [(0, .ref (a 0)), (1, .int p0), (2, .int p1)] := hl
  refine lv_aload_n hx hb dL_hold_0 rfl (lv_at hl 0 rfl) ?_
  refine lv_iload_n hx hb dL_hold_1 rfl (lv_at hl 1 rfl) ?_
  refine lv_iload_n hx hb dL_hold_2 rfl (lv_at hl 2 rfl) ?_
  refine ik_Vv (As := [.int p0, .int p1]) (rest := []) ⟨hx, hb, hml, hown, hts⟩ (fr_v (isT := [0, 1]) (fun A => c_X7_hold l D cI cZ a A p0 p1 σ σ1 h) (lk_em cI cZ cJ a b o σ σ1 ρ f) rfl (fun _ h => h) A) (cwV 2 hts gL_hold_X7_hold rfl rfl rfl (by decide +kernel) ⟨Nat.le_of_ble_eq_true rfl, Nat.le_of_ble_eq_true rfl⟩) (va_recv hK hP (ci := 5) (q0 := 0) rfl rfl) hP hK hD hN hS rfl hl.1 rfl (Nat.le_of_ble_eq_true rfl) dL_hold_3 (fun H locs hP hD hS => ?_)
  refine lv_goto (tgt := 12) hx hb dL_hold_6 (by decide) ?_
  refine lv_iconst (v := 0) hx hb dL_hold_12 (by decide) ?_
  exact W.iret hx hb hr (fun t ht hW => ⟨⟨_, _, rfl, ⟨rfl, rfl⟩, by rw [ht]; exact hP, hD⟩, hS.F ht⟩) hS.2.2 dL_hold_13
abbrev rt_L_hold : Room := { frames := 8, cells := 1, slots := 6, locals := 132 }
set_option maxHeartbeats 4000000 in
set_option maxRecDepth 100000 in
theorem t_L_hold (l : Launch) (hl0 : l.stackTraces = false) (D : va_G) (cI cZ cJ : ClassId) (a b : Nat → Nat) (o : Nat) (A : Nat → Prop) (p0 : Int32) (p1 : Int32) (σ : ck_S) (ρ : mk_S) (f : Nat → Int64) (h : tX7_hold p0 p1 σ = some ()) : Met l yL_hold wsL_hold rt_L_hold (va_Pc [.ref (a 0), .int p0, .int p1] (fun U => ik_P D (lk_T cI cZ cJ) ck_N (lk_W cI cZ cJ a b o) A (σ, ρ, f) U ∧ xk_P A U)) (ik_Qi D (lk_W cI cZ cJ a b o) A 1 (σ, ρ, f)) 1 6 A := by
  refine va_MetW (hh := [(0, 6, 9, 13)]) (cc := cL_hold) (maxL := 4) (ret := (some .int)) (by decide) rfl ?_
  intro p e s m args below meth c s₁ B hml hv
  obtain ⟨hAr, ⟨hP, hK, hD, hN⟩, hX⟩ := hv
  have hx := B.exec
  have hb := B.bytes
  have hr := B.returns
  have hts := atoms_spec (ws := wsL_hold) B.pre
  have hown : s.vm.findClass RL = some m.cls := findClass_of_methodNamed B.named
  have hlocks := B.notSynchronized
  have htab := vx_table (x := yL_hold) B (hts _ List.mem_cons_self)
  have hS : va_S A s.heap s.heap [] := va_S.rf
  have hl := lv_entry ([.ref (a 0), .int p0, .int p1]) (n := 4) (Nat.le_of_ble_eq_true rfl)
  rw [show entryFrame m args 4 = entryFrame m ([.ref (a 0), .int p0, .int p1] : List Value).toArray 4 from by rw [hAr], lg_entry_eq]
  generalize (lg_sl ([.ref (a 0), .int p0, .int p1]) ++ List.replicate (4 - (lg_sl ([.ref (a 0), .int p0, .int p1])).length) Slot.unset).toArray = ls at hl ⊢
  have hl : lv_has ls 4 [(0, .ref (a 0)), (1, .int p0), (2, .int p1)] := hl
  refine lv_aload_n hx hb dL_hold_0 rfl (lv_at hl 0 rfl) ?_
  refine lv_iload_n hx hb dL_hold_1 rfl (lv_at hl 1 rfl) ?_
  refine lv_iload_n hx hb dL_hold_2 rfl (lv_at hl 2 rfl) ?_
  refine vx_callv (vx_runV (As := [.int p0, .int p1]) (rest := []) ⟨hx, hb, hml, hown, hts⟩ (fr_xv (isT := [0, 1]) (fun A => t_X7_hold l hl0 D cI cZ a A p0 p1 σ h) (lk_em cI cZ cJ a b o σ σ ρ f) rfl (fun _ h => h) A) (cwV 2 hts gL_hold_X7_hold rfl rfl rfl (by decide +kernel) ⟨Nat.le_of_ble_eq_true rfl, Nat.le_of_ble_eq_true rfl⟩) ⟨xk_blind, (va_recv hK hP (ci := 5) (q0 := 0) rfl rfl), xk_pre hP hK hD hN hX hS⟩ rfl rfl hl.1 rfl (lv_room (Nat.le_of_ble_eq_true rfl)) dL_hold_3 ⟨by decide, by decide⟩) hS (fun q _ h => h) (fun q h => h) (fun q _ h => h) (fun E ce q9 u t H1 locs1 ht hvm hpx hBX hz hk hS hce hcv hcl => ?_) (fun u t H1 locs1 ht hvm hp => hp.elim)
  subst hpx
  obtain ⟨hE, hP, hD⟩ := hBX
  rw [ht] at hP
  rw [hE] at hcl
  refine xk_catch (x := { startPc := 0, endPc := 6, handlerPc := 9, catchType := 13 }) hown htab (by decide) (by decide) (hts (.classLink RL 13 xk_E) (by decide +kernel)) hX.2.2.1.1 hce hcv hcl ?_
  refine lv_astore_n (lv' := [(3, .ref q9), (0, .ref (a 0)), (1, .int p0), (2, .int p1)]) hx hb dL_hold_9 rfl hl (by decide) rfl (fun ls hl => ?_)
  refine lv_iconst (v := 1) hx hb dL_hold_10 (by decide) ?_
  exact W.iret hx hb hr (fun t ht hW => ⟨⟨_, _, rfl, ⟨rfl, rfl⟩, by rw [ht]; exact hP, hD⟩, hS.F ht⟩) hS.2.2 dL_hold_11
abbrev rm_L_bit : Room := { frames := 3, cells := 0, slots := 0, locals := 67 }
set_option maxHeartbeats 4000000 in
set_option maxRecDepth 100000 in
theorem c_L_bit (l : Launch) (D : va_G) (cI cZ cJ : ClassId) (a b : Nat → Nat) (o : Nat) (A : Nat → Prop) (p0 : Int32) (p1 : Int32) (p2 : Int32) (σ : ck_S) (σ1 : ck_S) (ρ : mk_S) (f : Nat → Int64) (h : fX7_bit p0 p1 p2 σ = some σ1) : Met l yL_bit wsL_bit rm_L_bit (va_Pc [.ref (a 0), .int p0, .int p1, .int p2] (ik_P D (lk_T cI cZ cJ) ck_N (lk_W cI cZ cJ a b o) A (σ, ρ, f))) (ik_Qi D (lk_W cI cZ cJ a b o) A 0 (σ1, ρ, f)) 0 0 A := by
  refine va_MetW (hh := [(0, 7, 10, 13)]) (cc := cL_bit) (maxL := 5) (ret := (some .int)) (by decide) rfl ?_
  intro p e s m args below meth c s₁ B hml hv
  obtain ⟨hAr, hP, hK, hD, hN⟩ := hv
  have hx := B.exec
  have hb := B.bytes
  have hr := B.returns
  have hts := atoms_spec (ws := wsL_bit) B.pre
  have hown : s.vm.findClass RL = some m.cls := findClass_of_methodNamed B.named
  have hlocks := B.notSynchronized
  have hS : va_S A s.heap s.heap [] := va_S.rf
  have hl := lv_entry ([.ref (a 0), .int p0, .int p1, .int p2]) (n := 5) (Nat.le_of_ble_eq_true rfl)
  rw [show entryFrame m args 5 = entryFrame m ([.ref (a 0), .int p0, .int p1, .int p2] : List Value).toArray 5 from by rw [hAr], lg_entry_eq]
  generalize (lg_sl ([.ref (a 0), .int p0, .int p1, .int p2]) ++ List.replicate (5 - (lg_sl ([.ref (a 0), .int p0, .int p1, .int p2])).length) Slot.unset).toArray = ls at hl ⊢
  have hl : lv_has ls 5 [(0, .ref (a 0)), (1, .int p0), (2, .int p1), (3, .int p2)] := hl
  refine lv_aload_n hx hb dL_bit_0 rfl (lv_at hl 0 rfl) ?_
  refine lv_iload_n hx hb dL_bit_1 rfl (lv_at hl 1 rfl) ?_
  refine lv_iload_n hx hb dL_bit_2 rfl (lv_at hl 2 rfl) ?_
  refine lv_iload_n hx hb dL_bit_3 rfl (lv_at hl 3 rfl) ?_
  refine ik_Vv (As := [.int p0, .int p1, .int p2]) (rest := []) ⟨hx, hb, hml, hown, hts⟩ (fr_v (isT := [0, 1]) (fun A => c_X7_bit l D cI cZ a A p0 p1 p2 σ σ1 h) (lk_em cI cZ cJ a b o σ σ1 ρ f) rfl (fun _ h => h) A) (cwV 3 hts gL_bit_X7_bit rfl rfl rfl (by decide +kernel) ⟨Nat.le_of_ble_eq_true rfl, Nat.le_of_ble_eq_true rfl⟩) (va_recv hK hP (ci := 5) (q0 := 0) rfl rfl) hP hK hD hN hS rfl hl.1 rfl (Nat.le_of_ble_eq_true rfl) dL_bit_4 (fun H locs hP hD hS => ?_)
  refine lv_goto (tgt := 14) hx hb dL_bit_7 (by decide) ?_
  refine lv_iconst (v := 0) hx hb dL_bit_14 (by decide) ?_
  exact W.iret hx hb hr (fun t ht hW => ⟨⟨_, _, rfl, ⟨rfl, rfl⟩, by rw [ht]; exact hP, hD⟩, hS.F ht⟩) hS.2.2 dL_bit_15
abbrev rt_L_bit : Room := { frames := 8, cells := 1, slots := 6, locals := 136 }
set_option maxHeartbeats 4000000 in
set_option maxRecDepth 100000 in
theorem t_L_bit (l : Launch) (hl0 : l.stackTraces = false) (D : va_G) (cI cZ cJ : ClassId) (a b : Nat → Nat) (o : Nat) (A : Nat → Prop) (p0 : Int32) (p1 : Int32) (p2 : Int32) (σ : ck_S) (ρ : mk_S) (f : Nat → Int64) (h : tX7_bit p0 p1 p2 σ = some ()) : Met l yL_bit wsL_bit rt_L_bit (va_Pc [.ref (a 0), .int p0, .int p1, .int p2] (fun U => ik_P D (lk_T cI cZ cJ) ck_N (lk_W cI cZ cJ a b o) A (σ, ρ, f) U ∧ xk_P A U)) (ik_Qi D (lk_W cI cZ cJ a b o) A 1 (σ, ρ, f)) 1 6 A := by
  refine va_MetW (hh := [(0, 7, 10, 13)]) (cc := cL_bit) (maxL := 5) (ret := (some .int)) (by decide) rfl ?_
  intro p e s m args below meth c s₁ B hml hv
  obtain ⟨hAr, ⟨hP, hK, hD, hN⟩, hX⟩ := hv
  have hx := B.exec
  have hb := B.bytes
  have hr := B.returns
  have hts := atoms_spec (ws := wsL_bit) B.pre
  have hown : s.vm.findClass RL = some m.cls := findClass_of_methodNamed B.named
  have hlocks := B.notSynchronized
  have htab := vx_table (x := yL_bit) B (hts _ List.mem_cons_self)
  have hS : va_S A s.heap s.heap [] := va_S.rf
  have hl := lv_entry ([.ref (a 0), .int p0, .int p1, .int p2]) (n := 5) (Nat.le_of_ble_eq_true rfl)
  rw [show entryFrame m args 5 = entryFrame m ([.ref (a 0), .int p0, .int p1, .int p2] : List Value).toArray 5 from by rw [hAr], lg_entry_eq]
  generalize (lg_sl ([.ref (a 0), .int p0, .int p1, .int p2]) ++ List.replicate (5 - (lg_sl ([.ref (a 0), .int p0, .int p1, .int p2])).length) Slot.unset).toArray = ls at hl ⊢
  have hl : lv_has ls 5 [(0, .ref (a 0)), (1, .int p0), (2, .int p1), (3, .int p2)] := hl
  refine lv_aload_n hx hb dL_bit_0 rfl (lv_at hl 0 rfl) ?_
  refine lv_iload_n hx hb dL_bit_1 rfl (lv_at hl 1 rfl) ?_
  refine lv_iload_n hx hb dL_bit_2 rfl (lv_at hl 2 rfl) ?_
  refine lv_iload_n hx hb dL_bit_3 rfl (lv_at hl 3 rfl) ?_
  refine vx_callv (vx_runV (As := [.int p0, .int p1, .int p2]) (rest := []) ⟨hx, hb, hml, hown, hts⟩ (fr_xv (isT := [0, 1]) (fun A => t_X7_bit l hl0 D cI cZ a A p0 p1 p2 σ h) (lk_em cI cZ cJ a b o σ σ ρ f) rfl (fun _ h => h) A) (cwV 3 hts gL_bit_X7_bit rfl rfl rfl (by decide +kernel) ⟨Nat.le_of_ble_eq_true rfl, Nat.le_of_ble_eq_true rfl⟩) ⟨xk_blind, (va_recv hK hP (ci := 5) (q0 := 0) rfl rfl), xk_pre hP hK hD hN hX hS⟩ rfl rfl hl.1 rfl (lv_room (Nat.le_of_ble_eq_true rfl)) dL_bit_4 ⟨by decide, by decide⟩) hS (fun q _ h => h) (fun q h => h) (fun q _ h => h) (fun E ce q9 u t H1 locs1 ht hvm hpx hBX hz hk hS hce hcv hcl => ?_) (fun u t H1 locs1 ht hvm hp => hp.elim)
  subst hpx
  obtain ⟨hE, hP, hD⟩ := hBX
  rw [ht] at hP
  rw [hE] at hcl
  refine xk_catch (x := { startPc := 0, endPc := 7, handlerPc := 10, catchType := 13 }) hown htab (by decide) (by decide) (hts (.classLink RL 13 xk_E) (by decide +kernel)) hX.2.2.1.1 hce hcv hcl ?_
  refine lv_astore (lv' := [(4, .ref q9), (0, .ref (a 0)), (1, .int p0), (2, .int p1), (3, .int p2)]) hx hb dL_bit_10 hl (by decide) rfl (fun ls hl => ?_)
  refine lv_iconst (v := 1) hx hb dL_bit_12 (by decide) ?_
  exact W.iret hx hb hr (fun t ht hW => ⟨⟨_, _, rfl, ⟨rfl, rfl⟩, by rw [ht]; exact hP, hD⟩, hS.F ht⟩) hS.2.2 dL_bit_13
abbrev rm_L_tell : Room := { frames := 2, cells := 0, slots := 0, locals := 44 }
set_option maxHeartbeats 4000000 in
set_option maxRecDepth 100000 in
theorem c_L_tell (l : Launch) (D : va_G) (cI cZ cJ : ClassId) (a b : Nat → Nat) (o : Nat) (A : Nat → Prop) (p0 : Int32) (p1 : Int32) (σ : ck_S) (σ1 : ck_S) (ρ : mk_S) (f : Nat → Int64) (h : fX7_tell p0 p1 σ = some σ1) : Met l yL_tell wsL_tell rm_L_tell (va_Pc [.ref (a 0), .int p0, .int p1] (ik_P D (lk_T cI cZ cJ) ck_N (lk_W cI cZ cJ a b o) A (σ, ρ, f))) (ik_Qi D (lk_W cI cZ cJ a b o) A 0 (σ1, ρ, f)) 0 0 A := by
  refine va_MetW (hh := [(0, 6, 9, 13)]) (cc := cL_tell) (maxL := 4) (ret := (some .int)) (by decide) rfl ?_
  intro p e s m args below meth c s₁ B hml hv
  obtain ⟨hAr, hP, hK, hD, hN⟩ := hv
  have hx := B.exec
  have hb := B.bytes
  have hr := B.returns
  have hts := atoms_spec (ws := wsL_tell) B.pre
  have hown : s.vm.findClass RL = some m.cls := findClass_of_methodNamed B.named
  have hlocks := B.notSynchronized
  have hS : va_S A s.heap s.heap [] := va_S.rf
  have hl := lv_entry ([.ref (a 0), .int p0, .int p1]) (n := 4) (Nat.le_of_ble_eq_true rfl)
  rw [show entryFrame m args 4 = entryFrame m ([.ref (a 0), .int p0, .int p1] : List Value).toArray 4 from by rw [hAr], lg_entry_eq]
  generalize (lg_sl ([.ref (a 0), .int p0, .int p1]) ++ List.replicate (4 - (lg_sl ([.ref (a 0), .int p0, .int p1])).length) Slot.unset).toArray = ls at hl ⊢
  have hl : lv_has ls 4 [(0, .ref (a 0)), (1, .int p0), (2, .int p1)] := hl
  refine lv_aload_n hx hb dL_tell_0 rfl (lv_at hl 0 rfl) ?_
  refine lv_iload_n hx hb dL_tell_1 rfl (lv_at hl 1 rfl) ?_
  refine lv_iload_n hx hb dL_tell_2 rfl (lv_at hl 2 rfl) ?_
  refine ik_Vv (As := [.int p0, .int p1]) (rest := []) ⟨hx, hb, hml, hown, hts⟩ (fr_v (isT := [0, 1]) (fun A => c_X7_tell l D cI cZ a A p0 p1 σ σ1 h) (lk_em cI cZ cJ a b o σ σ1 ρ f) rfl (fun _ h => h) A) (cwV 2 hts gL_tell_X7_tell rfl rfl rfl (by decide +kernel) ⟨Nat.le_of_ble_eq_true rfl, Nat.le_of_ble_eq_true rfl⟩) (va_recv hK hP (ci := 5) (q0 := 0) rfl rfl) hP hK hD hN hS rfl hl.1 rfl (Nat.le_of_ble_eq_true rfl) dL_tell_3 (fun H locs hP hD hS => ?_)
  refine lv_goto (tgt := 12) hx hb dL_tell_6 (by decide) ?_
  refine lv_iconst (v := 0) hx hb dL_tell_12 (by decide) ?_
  exact W.iret hx hb hr (fun t ht hW => ⟨⟨_, _, rfl, ⟨rfl, rfl⟩, by rw [ht]; exact hP, hD⟩, hS.F ht⟩) hS.2.2 dL_tell_13
abbrev rt_L_tell : Room := { frames := 8, cells := 1, slots := 6, locals := 133 }
set_option maxHeartbeats 4000000 in
set_option maxRecDepth 100000 in
theorem t_L_tell (l : Launch) (hl0 : l.stackTraces = false) (D : va_G) (cI cZ cJ : ClassId) (a b : Nat → Nat) (o : Nat) (A : Nat → Prop) (p0 : Int32) (p1 : Int32) (σ : ck_S) (ρ : mk_S) (f : Nat → Int64) (h : tX7_tell p0 p1 σ = some ()) : Met l yL_tell wsL_tell rt_L_tell (va_Pc [.ref (a 0), .int p0, .int p1] (fun U => ik_P D (lk_T cI cZ cJ) ck_N (lk_W cI cZ cJ a b o) A (σ, ρ, f) U ∧ xk_P A U)) (ik_Qi D (lk_W cI cZ cJ a b o) A 1 (σ, ρ, f)) 1 6 A := by
  refine va_MetW (hh := [(0, 6, 9, 13)]) (cc := cL_tell) (maxL := 4) (ret := (some .int)) (by decide) rfl ?_
  intro p e s m args below meth c s₁ B hml hv
  obtain ⟨hAr, ⟨hP, hK, hD, hN⟩, hX⟩ := hv
  have hx := B.exec
  have hb := B.bytes
  have hr := B.returns
  have hts := atoms_spec (ws := wsL_tell) B.pre
  have hown : s.vm.findClass RL = some m.cls := findClass_of_methodNamed B.named
  have hlocks := B.notSynchronized
  have htab := vx_table (x := yL_tell) B (hts _ List.mem_cons_self)
  have hS : va_S A s.heap s.heap [] := va_S.rf
  have hl := lv_entry ([.ref (a 0), .int p0, .int p1]) (n := 4) (Nat.le_of_ble_eq_true rfl)
  rw [show entryFrame m args 4 = entryFrame m ([.ref (a 0), .int p0, .int p1] : List Value).toArray 4 from by rw [hAr], lg_entry_eq]
  generalize (lg_sl ([.ref (a 0), .int p0, .int p1]) ++ List.replicate (4 - (lg_sl ([.ref (a 0), .int p0, .int p1])).length) Slot.unset).toArray = ls at hl ⊢
  have hl : lv_has ls 4 [(0, .ref (a 0)), (1, .int p0), (2, .int p1)] := hl
  refine lv_aload_n hx hb dL_tell_0 rfl (lv_at hl 0 rfl) ?_
  refine lv_iload_n hx hb dL_tell_1 rfl (lv_at hl 1 rfl) ?_
  refine lv_iload_n hx hb dL_tell_2 rfl (lv_at hl 2 rfl) ?_
  refine vx_callv (vx_runV (As := [.int p0, .int p1]) (rest := []) ⟨hx, hb, hml, hown, hts⟩ (fr_xv (isT := [0, 1]) (fun A => t_X7_tell l hl0 D cI cZ a A p0 p1 σ h) (lk_em cI cZ cJ a b o σ σ ρ f) rfl (fun _ h => h) A) (cwV 2 hts gL_tell_X7_tell rfl rfl rfl (by decide +kernel) ⟨Nat.le_of_ble_eq_true rfl, Nat.le_of_ble_eq_true rfl⟩) ⟨xk_blind, (va_recv hK hP (ci := 5) (q0 := 0) rfl rfl), xk_pre hP hK hD hN hX hS⟩ rfl rfl hl.1 rfl (lv_room (Nat.le_of_ble_eq_true rfl)) dL_tell_3 ⟨by decide, by decide⟩) hS (fun q _ h => h) (fun q h => h) (fun q _ h => h) (fun E ce q9 u t H1 locs1 ht hvm hpx hBX hz hk hS hce hcv hcl => ?_) (fun u t H1 locs1 ht hvm hp => hp.elim)
  subst hpx
  obtain ⟨hE, hP, hD⟩ := hBX
  rw [ht] at hP
  rw [hE] at hcl
  refine xk_catch (x := { startPc := 0, endPc := 6, handlerPc := 9, catchType := 13 }) hown htab (by decide) (by decide) (hts (.classLink RL 13 xk_E) (by decide +kernel)) hX.2.2.1.1 hce hcv hcl ?_
  refine lv_astore_n (lv' := [(3, .ref q9), (0, .ref (a 0)), (1, .int p0), (2, .int p1)]) hx hb dL_tell_9 rfl hl (by decide) rfl (fun ls hl => ?_)
  refine lv_iconst (v := 1) hx hb dL_tell_10 (by decide) ?_
  exact W.iret hx hb hr (fun t ht hW => ⟨⟨_, _, rfl, ⟨rfl, rfl⟩, by rw [ht]; exact hP, hD⟩, hS.F ht⟩) hS.2.2 dL_tell_11
abbrev rm_L_about : Room := { frames := 3, cells := 0, slots := 0, locals := 64 }
set_option maxHeartbeats 4000000 in
set_option maxRecDepth 100000 in
theorem c_L_about (l : Launch) (D : va_G) (cI cZ cJ : ClassId) (a b : Nat → Nat) (o : Nat) (A : Nat → Prop) (p0 : Int32) (p1 : Int32) (σ : ck_S) (r : Int32) (ρ : mk_S) (f : Nat → Int64) (h : fX7_about p0 p1 σ = some r) : Met l yL_about wsL_about rm_L_about (va_Pc [.ref (a 0), .int p0, .int p1, .ref o] (ik_P D (lk_T cI cZ cJ) ck_N (lk_W cI cZ cJ a b o) A (σ, ρ, f))) (ik_Qi D (lk_W cI cZ cJ a b o) A 0 (σ, ρ, lk_out f r.toInt64)) 0 0 A := by
  refine va_MetW (hh := [(0, 10, 13, 13)]) (cc := cL_about) (maxL := 5) (ret := (some .int)) (by decide) rfl ?_
  intro p e s m args below meth c s₁ B hml hv
  obtain ⟨hAr, hP, hK, hD, hN⟩ := hv
  have hx := B.exec
  have hb := B.bytes
  have hr := B.returns
  have hts := atoms_spec (ws := wsL_about) B.pre
  have hown : s.vm.findClass RL = some m.cls := findClass_of_methodNamed B.named
  have hlocks := B.notSynchronized
  have hS : va_S A s.heap s.heap [] := va_S.rf
  have hl := lv_entry ([.ref (a 0), .int p0, .int p1, .ref o]) (n := 5) (Nat.le_of_ble_eq_true rfl)
  rw [show entryFrame m args 5 = entryFrame m ([.ref (a 0), .int p0, .int p1, .ref o] : List Value).toArray 5 from by rw [hAr], lg_entry_eq]
  generalize (lg_sl ([.ref (a 0), .int p0, .int p1, .ref o]) ++ List.replicate (5 - (lg_sl ([.ref (a 0), .int p0, .int p1, .ref o])).length) Slot.unset).toArray = ls at hl ⊢
  have hl : lv_has ls 5 [(0, .ref (a 0)), (1, .int p0), (2, .int p1), (3, .ref o)] := hl
  refine lv_aload_n hx hb dL_about_0 rfl (lv_at hl 3 rfl) ?_
  refine lv_iconst (v := 0) hx hb dL_about_1 (by decide) ?_
  refine lv_aload_n hx hb dL_about_2 rfl (lv_at hl 0 rfl) ?_
  refine lv_iload_n hx hb dL_about_3 rfl (lv_at hl 1 rfl) ?_
  refine lv_iload_n hx hb dL_about_4 rfl (lv_at hl 2 rfl) ?_
  refine ik_Vi (As := [.int p0, .int p1]) (rest := [.int 0, .ref o]) ⟨hx, hb, hml, hown, hts⟩ (fr_i (isT := [0, 1]) (fun A => c_X7_about l D cI cZ a A p0 p1 σ r h) (lk_em cI cZ cJ a b o σ σ ρ f) rfl (fun _ h => h) A) (cwV 2 hts gL_about_X7_about rfl rfl rfl (by decide +kernel) ⟨Nat.le_of_ble_eq_true rfl, Nat.le_of_ble_eq_true rfl⟩) (va_recv hK hP (ci := 5) (q0 := 0) rfl rfl) hP hK hD hN hS rfl hl.1 rfl (Nat.le_of_ble_eq_true rfl) dL_about_5 (fun H locs hP hD hS => ?_)
  refine lv_i2l (v := r.toInt64) hx hb dL_about_8 rfl ?_
  refine va_last hx hb hK hP hD hS 25 2 rfl rfl (show vp_in (0 : Int32) 1 by unfold vp_in; decide) dL_about_9 (fun H locs hP hD hS => ?_)
  have hP : va_P D vwCl ((lk_W cI cZ cJ a b o) (σ, ρ, (lk_out f r.toInt64))) H := hP
  have hD : va_D A ((lk_W cI cZ cJ a b o) (σ, ρ, (lk_out f r.toInt64))) := hD
  refine lv_goto (tgt := 17) hx hb dL_about_10 (by decide) ?_
  refine lv_iconst (v := 0) hx hb dL_about_17 (by decide) ?_
  exact W.iret hx hb hr (fun t ht hW => ⟨⟨_, _, rfl, ⟨rfl, rfl⟩, by rw [ht]; exact hP, hD⟩, hS.F ht⟩) hS.2.2 dL_about_18
abbrev rt_L_about : Room := { frames := 8, cells := 1, slots := 6, locals := 133 }
set_option maxHeartbeats 4000000 in
set_option maxRecDepth 100000 in
theorem t_L_about (l : Launch) (hl0 : l.stackTraces = false) (D : va_G) (cI cZ cJ : ClassId) (a b : Nat → Nat) (o : Nat) (A : Nat → Prop) (p0 : Int32) (p1 : Int32) (σ : ck_S) (ρ : mk_S) (f : Nat → Int64) (h : tX7_about p0 p1 σ = some ()) : Met l yL_about wsL_about rt_L_about (va_Pc [.ref (a 0), .int p0, .int p1, .ref o] (fun U => ik_P D (lk_T cI cZ cJ) ck_N (lk_W cI cZ cJ a b o) A (σ, ρ, f) U ∧ xk_P A U)) (ik_Qi D (lk_W cI cZ cJ a b o) A 1 (σ, ρ, f)) 1 6 A := by
  refine va_MetW (hh := [(0, 10, 13, 13)]) (cc := cL_about) (maxL := 5) (ret := (some .int)) (by decide) rfl ?_
  intro p e s m args below meth c s₁ B hml hv
  obtain ⟨hAr, ⟨hP, hK, hD, hN⟩, hX⟩ := hv
  have hx := B.exec
  have hb := B.bytes
  have hr := B.returns
  have hts := atoms_spec (ws := wsL_about) B.pre
  have hown : s.vm.findClass RL = some m.cls := findClass_of_methodNamed B.named
  have hlocks := B.notSynchronized
  have htab := vx_table (x := yL_about) B (hts _ List.mem_cons_self)
  have hS : va_S A s.heap s.heap [] := va_S.rf
  have hl := lv_entry ([.ref (a 0), .int p0, .int p1, .ref o]) (n := 5) (Nat.le_of_ble_eq_true rfl)
  rw [show entryFrame m args 5 = entryFrame m ([.ref (a 0), .int p0, .int p1, .ref o] : List Value).toArray 5 from by rw [hAr], lg_entry_eq]
  generalize (lg_sl ([.ref (a 0), .int p0, .int p1, .ref o]) ++ List.replicate (5 - (lg_sl ([.ref (a 0), .int p0, .int p1, .ref o])).length) Slot.unset).toArray = ls at hl ⊢
  have hl : lv_has ls 5 [(0, .ref (a 0)), (1, .int p0), (2, .int p1), (3, .ref o)] := hl
  refine lv_aload_n hx hb dL_about_0 rfl (lv_at hl 3 rfl) ?_
  refine lv_iconst (v := 0) hx hb dL_about_1 (by decide) ?_
  refine lv_aload_n hx hb dL_about_2 rfl (lv_at hl 0 rfl) ?_
  refine lv_iload_n hx hb dL_about_3 rfl (lv_at hl 1 rfl) ?_
  refine lv_iload_n hx hb dL_about_4 rfl (lv_at hl 2 rfl) ?_
  refine vx_calli (vx_runV (As := [.int p0, .int p1]) (rest := [.int 0, .ref o]) ⟨hx, hb, hml, hown, hts⟩ (fr_xi (isT := [0, 1]) (fun A => t_X7_about l hl0 D cI cZ a A p0 p1 σ h) (lk_em cI cZ cJ a b o σ σ ρ f) rfl (fun _ h => h) A) (cwV 2 hts gL_about_X7_about rfl rfl rfl (by decide +kernel) ⟨Nat.le_of_ble_eq_true rfl, Nat.le_of_ble_eq_true rfl⟩) ⟨xk_blind, (va_recv hK hP (ci := 5) (q0 := 0) rfl rfl), xk_pre hP hK hD hN hX hS⟩ rfl rfl hl.1 rfl (lv_room (Nat.le_of_ble_eq_true rfl)) dL_about_5 ⟨by decide, by decide⟩) hS (fun q _ h => h) (fun q h => h) (fun q _ h => h) (fun E ce q9 u t H1 locs1 ht hvm hpx hBX hz hk hS hce hcv hcl => ?_) (fun r u t H1 locs1 ht hvm hp => hp.elim)
  subst hpx
  obtain ⟨hE, hP, hD⟩ := hBX
  rw [ht] at hP
  rw [hE] at hcl
  refine xk_catch (x := { startPc := 0, endPc := 10, handlerPc := 13, catchType := 13 }) hown htab (by decide) (by decide) (hts (.classLink RL 13 xk_E) (by decide +kernel)) hX.2.2.1.1 hce hcv hcl ?_
  refine lv_astore (lv' := [(4, .ref q9), (0, .ref (a 0)), (1, .int p0), (2, .int p1), (3, .ref o)]) hx hb dL_about_13 hl (by decide) rfl (fun ls hl => ?_)
  refine lv_iconst (v := 1) hx hb dL_about_15 (by decide) ?_
  exact W.iret hx hb hr (fun t ht hW => ⟨⟨_, _, rfl, ⟨rfl, rfl⟩, by rw [ht]; exact hP, hD⟩, hS.F ht⟩) hS.2.2 dL_about_16
abbrev rm_L_runOf : Room := { frames := 3, cells := 0, slots := 0, locals := 67 }
set_option maxHeartbeats 4000000 in
set_option maxRecDepth 100000 in
theorem c_L_runOf (l : Launch) (D : va_G) (cI cZ cJ : ClassId) (a b : Nat → Nat) (o : Nat) (A : Nat → Prop) (p0 : Int32) (p1 : Int32) (p2 : Int32) (σ : ck_S) (r : Int32) (ρ : mk_S) (f : Nat → Int64) (h : fX7_runOf p0 p1 p2 σ = some r) : Met l yL_runOf wsL_runOf rm_L_runOf (va_Pc [.ref (a 0), .int p0, .int p1, .int p2, .ref o] (ik_P D (lk_T cI cZ cJ) ck_N (lk_W cI cZ cJ a b o) A (σ, ρ, f))) (ik_Qi D (lk_W cI cZ cJ a b o) A 0 (σ, ρ, lk_out f r.toInt64)) 0 0 A := by
  refine va_MetW (hh := [(0, 12, 15, 13)]) (cc := cL_runOf) (maxL := 6) (ret := (some .int)) (by decide) rfl ?_
  intro p e s m args below meth c s₁ B hml hv
  obtain ⟨hAr, hP, hK, hD, hN⟩ := hv
  have hx := B.exec
  have hb := B.bytes
  have hr := B.returns
  have hts := atoms_spec (ws := wsL_runOf) B.pre
  have hown : s.vm.findClass RL = some m.cls := findClass_of_methodNamed B.named
  have hlocks := B.notSynchronized
  have hS : va_S A s.heap s.heap [] := va_S.rf
  have hl := lv_entry ([.ref (a 0), .int p0, .int p1, .int p2, .ref o]) (n := 6) (Nat.le_of_ble_eq_true rfl)
  rw [show entryFrame m args 6 = entryFrame m ([.ref (a 0), .int p0, .int p1, .int p2, .ref o] : List Value).toArray 6 from by rw [hAr], lg_entry_eq]
  generalize (lg_sl ([.ref (a 0), .int p0, .int p1, .int p2, .ref o]) ++ List.replicate (6 - (lg_sl ([.ref (a 0), .int p0, .int p1, .int p2, .ref o])).length) Slot.unset).toArray = ls at hl ⊢
  have hl : lv_has ls 6 [(0, .ref (a 0)), (1, .int p0), (2, .int p1), (3, .int p2), (4, .ref o)] := hl
  refine lv_aload hx hb dL_runOf_0 (lv_at hl 4 rfl) ?_
  refine lv_iconst (v := 0) hx hb dL_runOf_2 (by decide) ?_
  refine lv_aload_n hx hb dL_runOf_3 rfl (lv_at hl 0 rfl) ?_
  refine lv_iload_n hx hb dL_runOf_4 rfl (lv_at hl 1 rfl) ?_
  refine lv_iload_n hx hb dL_runOf_5 rfl (lv_at hl 2 rfl) ?_
  refine lv_iload_n hx hb dL_runOf_6 rfl (lv_at hl 3 rfl) ?_
  refine ik_Vi (As := [.int p0, .int p1, .int p2]) (rest := [.int 0, .ref o]) ⟨hx, hb, hml, hown, hts⟩ (fr_i (isT := [0, 1]) (fun A => c_X7_runOf l D cI cZ a A p0 p1 p2 σ r h) (lk_em cI cZ cJ a b o σ σ ρ f) rfl (fun _ h => h) A) (cwV 3 hts gL_runOf_X7_runOf rfl rfl rfl (by decide +kernel) ⟨Nat.le_of_ble_eq_true rfl, Nat.le_of_ble_eq_true rfl⟩) (va_recv hK hP (ci := 5) (q0 := 0) rfl rfl) hP hK hD hN hS rfl hl.1 rfl (Nat.le_of_ble_eq_true rfl) dL_runOf_7 (fun H locs hP hD hS => ?_)
  refine lv_i2l (v := r.toInt64) hx hb dL_runOf_10 rfl ?_
  refine va_last hx hb hK hP hD hS 25 2 rfl rfl (show vp_in (0 : Int32) 1 by unfold vp_in; decide) dL_runOf_11 (fun H locs hP hD hS => ?_)
  have hP : va_P D vwCl ((lk_W cI cZ cJ a b o) (σ, ρ, (lk_out f r.toInt64))) H := hP
  have hD : va_D A ((lk_W cI cZ cJ a b o) (σ, ρ, (lk_out f r.toInt64))) := hD
  refine lv_goto (tgt := 19) hx hb dL_runOf_12 (by decide) ?_
  refine lv_iconst (v := 0) hx hb dL_runOf_19 (by decide) ?_
  exact W.iret hx hb hr (fun t ht hW => ⟨⟨_, _, rfl, ⟨rfl, rfl⟩, by rw [ht]; exact hP, hD⟩, hS.F ht⟩) hS.2.2 dL_runOf_20
abbrev rt_L_runOf : Room := { frames := 8, cells := 1, slots := 6, locals := 134 }
set_option maxHeartbeats 4000000 in
set_option maxRecDepth 100000 in
theorem t_L_runOf (l : Launch) (hl0 : l.stackTraces = false) (D : va_G) (cI cZ cJ : ClassId) (a b : Nat → Nat) (o : Nat) (A : Nat → Prop) (p0 : Int32) (p1 : Int32) (p2 : Int32) (σ : ck_S) (ρ : mk_S) (f : Nat → Int64) (h : tX7_runOf p0 p1 p2 σ = some ()) : Met l yL_runOf wsL_runOf rt_L_runOf (va_Pc [.ref (a 0), .int p0, .int p1, .int p2, .ref o] (fun U => ik_P D (lk_T cI cZ cJ) ck_N (lk_W cI cZ cJ a b o) A (σ, ρ, f) U ∧ xk_P A U)) (ik_Qi D (lk_W cI cZ cJ a b o) A 1 (σ, ρ, f)) 1 6 A := by
  refine va_MetW (hh := [(0, 12, 15, 13)]) (cc := cL_runOf) (maxL := 6) (ret := (some .int)) (by decide) rfl ?_
  intro p e s m args below meth c s₁ B hml hv
  obtain ⟨hAr, ⟨hP, hK, hD, hN⟩, hX⟩ := hv
  have hx := B.exec
  have hb := B.bytes
  have hr := B.returns
  have hts := atoms_spec (ws := wsL_runOf) B.pre
  have hown : s.vm.findClass RL = some m.cls := findClass_of_methodNamed B.named
  have hlocks := B.notSynchronized
  have htab := vx_table (x := yL_runOf) B (hts _ List.mem_cons_self)
  have hS : va_S A s.heap s.heap [] := va_S.rf
  have hl := lv_entry ([.ref (a 0), .int p0, .int p1, .int p2, .ref o]) (n := 6) (Nat.le_of_ble_eq_true rfl)
  rw [show entryFrame m args 6 = entryFrame m ([.ref (a 0), .int p0, .int p1, .int p2, .ref o] : List Value).toArray 6 from by rw [hAr], lg_entry_eq]
  generalize (lg_sl ([.ref (a 0), .int p0, .int p1, .int p2, .ref o]) ++ List.replicate (6 - (lg_sl ([.ref (a 0), .int p0, .int p1, .int p2, .ref o])).length) Slot.unset).toArray = ls at hl ⊢
  have hl : lv_has ls 6 [(0, .ref (a 0)), (1, .int p0), (2, .int p1), (3, .int p2), (4, .ref o)] := hl
  refine lv_aload hx hb dL_runOf_0 (lv_at hl 4 rfl) ?_
  refine lv_iconst (v := 0) hx hb dL_runOf_2 (by decide) ?_
  refine lv_aload_n hx hb dL_runOf_3 rfl (lv_at hl 0 rfl) ?_
  refine lv_iload_n hx hb dL_runOf_4 rfl (lv_at hl 1 rfl) ?_
  refine lv_iload_n hx hb dL_runOf_5 rfl (lv_at hl 2 rfl) ?_
  refine lv_iload_n hx hb dL_runOf_6 rfl (lv_at hl 3 rfl) ?_
  refine vx_calli (vx_runV (As := [.int p0, .int p1, .int p2]) (rest := [.int 0, .ref o]) ⟨hx, hb, hml, hown, hts⟩ (fr_xi (isT := [0, 1]) (fun A => t_X7_runOf l hl0 D cI cZ a A p0 p1 p2 σ h) (lk_em cI cZ cJ a b o σ σ ρ f) rfl (fun _ h => h) A) (cwV 3 hts gL_runOf_X7_runOf rfl rfl rfl (by decide +kernel) ⟨Nat.le_of_ble_eq_true rfl, Nat.le_of_ble_eq_true rfl⟩) ⟨xk_blind, (va_recv hK hP (ci := 5) (q0 := 0) rfl rfl), xk_pre hP hK hD hN hX hS⟩ rfl rfl hl.1 rfl (lv_room (Nat.le_of_ble_eq_true rfl)) dL_runOf_7 ⟨by decide, by decide⟩) hS (fun q _ h => h) (fun q h => h) (fun q _ h => h) (fun E ce q9 u t H1 locs1 ht hvm hpx hBX hz hk hS hce hcv hcl => ?_) (fun r u t H1 locs1 ht hvm hp => hp.elim)
  subst hpx
  obtain ⟨hE, hP, hD⟩ := hBX
  rw [ht] at hP
  rw [hE] at hcl
  refine xk_catch (x := { startPc := 0, endPc := 12, handlerPc := 15, catchType := 13 }) hown htab (by decide) (by decide) (hts (.classLink RL 13 xk_E) (by decide +kernel)) hX.2.2.1.1 hce hcv hcl ?_
  refine lv_astore (lv' := [(5, .ref q9), (0, .ref (a 0)), (1, .int p0), (2, .int p1), (3, .int p2), (4, .ref o)]) hx hb dL_runOf_15 hl (by decide) rfl (fun ls hl => ?_)
  refine lv_iconst (v := 1) hx hb dL_runOf_17 (by decide) ?_
  exact W.iret hx hb hr (fun t ht hW => ⟨⟨_, _, rfl, ⟨rfl, rfl⟩, by rw [ht]; exact hP, hD⟩, hS.F ht⟩) hS.2.2 dL_runOf_18
abbrev rm_L_entryOf : Room := { frames := 3, cells := 0, slots := 0, locals := 67 }
set_option maxHeartbeats 4000000 in
set_option maxRecDepth 100000 in
theorem c_L_entryOf (l : Launch) (D : va_G) (cI cZ cJ : ClassId) (a b : Nat → Nat) (o : Nat) (A : Nat → Prop) (p0 : Int32) (p1 : Int32) (p2 : Int32) (σ : ck_S) (r : Int32) (ρ : mk_S) (f : Nat → Int64) (h : fX7_entryOf p0 p1 p2 σ = some r) : Met l yL_entryOf wsL_entryOf rm_L_entryOf (va_Pc [.ref (a 0), .int p0, .int p1, .int p2, .ref o] (ik_P D (lk_T cI cZ cJ) ck_N (lk_W cI cZ cJ a b o) A (σ, ρ, f))) (ik_Qi D (lk_W cI cZ cJ a b o) A 0 (σ, ρ, lk_out f r.toInt64)) 0 0 A := by
  refine va_MetW (hh := [(0, 12, 15, 13)]) (cc := cL_entryOf) (maxL := 6) (ret := (some .int)) (by decide) rfl ?_
  intro p e s m args below meth c s₁ B hml hv
  obtain ⟨hAr, hP, hK, hD, hN⟩ := hv
  have hx := B.exec
  have hb := B.bytes
  have hr := B.returns
  have hts := atoms_spec (ws := wsL_entryOf) B.pre
  have hown : s.vm.findClass RL = some m.cls := findClass_of_methodNamed B.named
  have hlocks := B.notSynchronized
  have hS : va_S A s.heap s.heap [] := va_S.rf
  have hl := lv_entry ([.ref (a 0), .int p0, .int p1, .int p2, .ref o]) (n := 6) (Nat.le_of_ble_eq_true rfl)
  rw [show entryFrame m args 6 = entryFrame m ([.ref (a 0), .int p0, .int p1, .int p2, .ref o] : List Value).toArray 6 from by rw [hAr], lg_entry_eq]
  generalize (lg_sl ([.ref (a 0), .int p0, .int p1, .int p2, .ref o]) ++ List.replicate (6 - (lg_sl ([.ref (a 0), .int p0, .int p1, .int p2, .ref o])).length) Slot.unset).toArray = ls at hl ⊢
  have hl : lv_has ls 6 [(0, .ref (a 0)), (1, .int p0), (2, .int p1), (3, .int p2), (4, .ref o)] := hl
  refine lv_aload hx hb dL_entryOf_0 (lv_at hl 4 rfl) ?_
  refine lv_iconst (v := 0) hx hb dL_entryOf_2 (by decide) ?_
  refine lv_aload_n hx hb dL_entryOf_3 rfl (lv_at hl 0 rfl) ?_
  refine lv_iload_n hx hb dL_entryOf_4 rfl (lv_at hl 1 rfl) ?_
  refine lv_iload_n hx hb dL_entryOf_5 rfl (lv_at hl 2 rfl) ?_
  refine lv_iload_n hx hb dL_entryOf_6 rfl (lv_at hl 3 rfl) ?_
  refine ik_Vi (As := [.int p0, .int p1, .int p2]) (rest := [.int 0, .ref o]) ⟨hx, hb, hml, hown, hts⟩ (fr_i (isT := [0, 1]) (fun A => c_X7_entryOf l D cI cZ a A p0 p1 p2 σ r h) (lk_em cI cZ cJ a b o σ σ ρ f) rfl (fun _ h => h) A) (cwV 3 hts gL_entryOf_X7_entryOf rfl rfl rfl (by decide +kernel) ⟨Nat.le_of_ble_eq_true rfl, Nat.le_of_ble_eq_true rfl⟩) (va_recv hK hP (ci := 5) (q0 := 0) rfl rfl) hP hK hD hN hS rfl hl.1 rfl (Nat.le_of_ble_eq_true rfl) dL_entryOf_7 (fun H locs hP hD hS => ?_)
  refine lv_i2l (v := r.toInt64) hx hb dL_entryOf_10 rfl ?_
  refine va_last hx hb hK hP hD hS 25 2 rfl rfl (show vp_in (0 : Int32) 1 by unfold vp_in; decide) dL_entryOf_11 (fun H locs hP hD hS => ?_)
  have hP : va_P D vwCl ((lk_W cI cZ cJ a b o) (σ, ρ, (lk_out f r.toInt64))) H := hP
  have hD : va_D A ((lk_W cI cZ cJ a b o) (σ, ρ, (lk_out f r.toInt64))) := hD
  refine lv_goto (tgt := 19) hx hb dL_entryOf_12 (by decide) ?_
  refine lv_iconst (v := 0) hx hb dL_entryOf_19 (by decide) ?_
  exact W.iret hx hb hr (fun t ht hW => ⟨⟨_, _, rfl, ⟨rfl, rfl⟩, by rw [ht]; exact hP, hD⟩, hS.F ht⟩) hS.2.2 dL_entryOf_20
abbrev rt_L_entryOf : Room := { frames := 8, cells := 1, slots := 6, locals := 134 }
set_option maxHeartbeats 4000000 in
set_option maxRecDepth 100000 in
theorem t_L_entryOf (l : Launch) (hl0 : l.stackTraces = false) (D : va_G) (cI cZ cJ : ClassId) (a b : Nat → Nat) (o : Nat) (A : Nat → Prop) (p0 : Int32) (p1 : Int32) (p2 : Int32) (σ : ck_S) (ρ : mk_S) (f : Nat → Int64) (h : tX7_entryOf p0 p1 p2 σ = some ()) : Met l yL_entryOf wsL_entryOf rt_L_entryOf (va_Pc [.ref (a 0), .int p0, .int p1, .int p2, .ref o] (fun U => ik_P D (lk_T cI cZ cJ) ck_N (lk_W cI cZ cJ a b o) A (σ, ρ, f) U ∧ xk_P A U)) (ik_Qi D (lk_W cI cZ cJ a b o) A 1 (σ, ρ, f)) 1 6 A := by
  refine va_MetW (hh := [(0, 12, 15, 13)]) (cc := cL_entryOf) (maxL := 6) (ret := (some .int)) (by decide) rfl ?_
  intro p e s m args below meth c s₁ B hml hv
  obtain ⟨hAr, ⟨hP, hK, hD, hN⟩, hX⟩ := hv
  have hx := B.exec
  have hb := B.bytes
  have hr := B.returns
  have hts := atoms_spec (ws := wsL_entryOf) B.pre
  have hown : s.vm.findClass RL = some m.cls := findClass_of_methodNamed B.named
  have hlocks := B.notSynchronized
  have htab := vx_table (x := yL_entryOf) B (hts _ List.mem_cons_self)
  have hS : va_S A s.heap s.heap [] := va_S.rf
  have hl := lv_entry ([.ref (a 0), .int p0, .int p1, .int p2, .ref o]) (n := 6) (Nat.le_of_ble_eq_true rfl)
  rw [show entryFrame m args 6 = entryFrame m ([.ref (a 0), .int p0, .int p1, .int p2, .ref o] : List Value).toArray 6 from by rw [hAr], lg_entry_eq]
  generalize (lg_sl ([.ref (a 0), .int p0, .int p1, .int p2, .ref o]) ++ List.replicate (6 - (lg_sl ([.ref (a 0), .int p0, .int p1, .int p2, .ref o])).length) Slot.unset).toArray = ls at hl ⊢
  have hl : lv_has ls 6 [(0, .ref (a 0)), (1, .int p0), (2, .int p1), (3, .int p2), (4, .ref o)] := hl
  refine lv_aload hx hb dL_entryOf_0 (lv_at hl 4 rfl) ?_
  refine lv_iconst (v := 0) hx hb dL_entryOf_2 (by decide) ?_
  refine lv_aload_n hx hb dL_entryOf_3 rfl (lv_at hl 0 rfl) ?_
  refine lv_iload_n hx hb dL_entryOf_4 rfl (lv_at hl 1 rfl) ?_
  refine lv_iload_n hx hb dL_entryOf_5 rfl (lv_at hl 2 rfl) ?_
  refine lv_iload_n hx hb dL_entryOf_6 rfl (lv_at hl 3 rfl) ?_
  refine vx_calli (vx_runV (As := [.int p0, .int p1, .int p2]) (rest := [.int 0, .ref o]) ⟨hx, hb, hml, hown, hts⟩ (fr_xi (isT := [0, 1]) (fun A => t_X7_entryOf l hl0 D cI cZ a A p0 p1 p2 σ h) (lk_em cI cZ cJ a b o σ σ ρ f) rfl (fun _ h => h) A) (cwV 3 hts gL_entryOf_X7_entryOf rfl rfl rfl (by decide +kernel) ⟨Nat.le_of_ble_eq_true rfl, Nat.le_of_ble_eq_true rfl⟩) ⟨xk_blind, (va_recv hK hP (ci := 5) (q0 := 0) rfl rfl), xk_pre hP hK hD hN hX hS⟩ rfl rfl hl.1 rfl (lv_room (Nat.le_of_ble_eq_true rfl)) dL_entryOf_7 ⟨by decide, by decide⟩) hS (fun q _ h => h) (fun q h => h) (fun q _ h => h) (fun E ce q9 u t H1 locs1 ht hvm hpx hBX hz hk hS hce hcv hcl => ?_) (fun r u t H1 locs1 ht hvm hp => hp.elim)
  subst hpx
  obtain ⟨hE, hP, hD⟩ := hBX
  rw [ht] at hP
  rw [hE] at hcl
  refine xk_catch (x := { startPc := 0, endPc := 12, handlerPc := 15, catchType := 13 }) hown htab (by decide) (by decide) (hts (.classLink RL 13 xk_E) (by decide +kernel)) hX.2.2.1.1 hce hcv hcl ?_
  refine lv_astore (lv' := [(5, .ref q9), (0, .ref (a 0)), (1, .int p0), (2, .int p1), (3, .int p2), (4, .ref o)]) hx hb dL_entryOf_15 hl (by decide) rfl (fun ls hl => ?_)
  refine lv_iconst (v := 1) hx hb dL_entryOf_17 (by decide) ?_
  exact W.iret hx hb hr (fun t ht hW => ⟨⟨_, _, rfl, ⟨rfl, rfl⟩, by rw [ht]; exact hP, hD⟩, hS.F ht⟩) hS.2.2 dL_entryOf_18
abbrev rm_L_isTaken : Room := { frames := 3, cells := 0, slots := 0, locals := 65 }
set_option maxHeartbeats 4000000 in
set_option maxRecDepth 100000 in
theorem c_L_isTaken (l : Launch) (D : va_G) (cI cZ cJ : ClassId) (a b : Nat → Nat) (o : Nat) (A : Nat → Prop) (p0 : Int32) (p1 : Int32) (σ : ck_S) (r : Int32) (ρ : mk_S) (f : Nat → Int64) (h : fX7_isTaken p0 p1 σ = some r) : Met l yL_isTaken wsL_isTaken rm_L_isTaken (va_Pc [.ref (a 0), .int p0, .int p1, .ref o] (ik_P D (lk_T cI cZ cJ) ck_N (lk_W cI cZ cJ a b o) A (σ, ρ, f))) (ik_Qi D (lk_W cI cZ cJ a b o) A 0 (σ, ρ, lk_out f (lk_z r))) 0 0 A := by
  refine va_MetW (hh := [(0, 17, 20, 13)]) (cc := cL_isTaken) (maxL := 5) (ret := (some .int)) (by decide) rfl ?_
  intro p e s m args below meth c s₁ B hml hv
  obtain ⟨hAr, hP, hK, hD, hN⟩ := hv
  have hx := B.exec
  have hb := B.bytes
  have hr := B.returns
  have hts := atoms_spec (ws := wsL_isTaken) B.pre
  have hown : s.vm.findClass RL = some m.cls := findClass_of_methodNamed B.named
  have hlocks := B.notSynchronized
  have hS : va_S A s.heap s.heap [] := va_S.rf
  have hl := lv_entry ([.ref (a 0), .int p0, .int p1, .ref o]) (n := 5) (Nat.le_of_ble_eq_true rfl)
  rw [show entryFrame m args 5 = entryFrame m ([.ref (a 0), .int p0, .int p1, .ref o] : List Value).toArray 5 from by rw [hAr], lg_entry_eq]
  generalize (lg_sl ([.ref (a 0), .int p0, .int p1, .ref o]) ++ List.replicate (5 - (lg_sl ([.ref (a 0), .int p0, .int p1, .ref o])).length) Slot.unset).toArray = ls at hl ⊢
  have hl : lv_has ls 5 [(0, .ref (a 0)), (1, .int p0), (2, .int p1), (3, .ref o)] := hl
  refine lv_aload_n hx hb dL_isTaken_0 rfl (lv_at hl 3 rfl) ?_
  refine lv_iconst (v := 0) hx hb dL_isTaken_1 (by decide) ?_
  refine lv_aload_n hx hb dL_isTaken_2 rfl (lv_at hl 0 rfl) ?_
  refine lv_iload_n hx hb dL_isTaken_3 rfl (lv_at hl 1 rfl) ?_
  refine lv_iload_n hx hb dL_isTaken_4 rfl (lv_at hl 2 rfl) ?_
  refine ik_Vi (As := [.int p0, .int p1]) (rest := [.int 0, .ref o]) ⟨hx, hb, hml, hown, hts⟩ (fr_i (isT := [0, 1]) (fun A => c_X7_isTaken l D cI cZ a A p0 p1 σ r h) (lk_em cI cZ cJ a b o σ σ ρ f) rfl (fun _ h => h) A) (cwV 2 hts gL_isTaken_X7_isTaken rfl rfl rfl (by decide +kernel) ⟨Nat.le_of_ble_eq_true rfl, Nat.le_of_ble_eq_true rfl⟩) (va_recv hK hP (ci := 5) (q0 := 0) rfl rfl) hP hK hD hN hS rfl hl.1 rfl (Nat.le_of_ble_eq_true rfl) dL_isTaken_5 (fun H locs hP hD hS => ?_)
  refine lv_if_eq (tgt := 15) hx hb dL_isTaken_8 (by decide) (fun c1 => ?_) (fun c1 => ?_)
  · have e1 : lk_z r = 0 := if_pos c1
    refine lv_lconst (v := 0) hx hb dL_isTaken_15 (by decide) ?_
    refine va_last hx hb hK hP hD hS 25 2 rfl rfl (show vp_in (0 : Int32) 1 by unfold vp_in; decide) dL_isTaken_16 (fun H locs hP hD hS => ?_)
    have hP : va_P D vwCl ((lk_W cI cZ cJ a b o) (σ, ρ, (lk_out f 0))) H := hP
    have hD : va_D A ((lk_W cI cZ cJ a b o) (σ, ρ, (lk_out f 0))) := hD
    refine lv_goto (tgt := 24) hx hb dL_isTaken_17 (by decide) ?_
    refine lv_iconst (v := 0) hx hb dL_isTaken_24 (by decide) ?_
    rw [show lk_out f 0 = lk_out f (lk_z r) from by rw [e1]] at hP hD
    exact W.iret hx hb hr (fun t ht hW => ⟨⟨_, _, rfl, ⟨rfl, rfl⟩, by rw [ht]; exact hP, hD⟩, hS.F ht⟩) hS.2.2 dL_isTaken_25
  · have e1 : lk_z r = 1 := if_neg c1
    refine lv_lconst (v := 1) hx hb dL_isTaken_11 (by decide) ?_
    refine lv_goto (tgt := 16) hx hb dL_isTaken_12 (by decide) ?_
    refine va_last hx hb hK hP hD hS 25 2 rfl rfl (show vp_in (0 : Int32) 1 by unfold vp_in; decide) dL_isTaken_16 (fun H locs hP hD hS => ?_)
    have hP : va_P D vwCl ((lk_W cI cZ cJ a b o) (σ, ρ, (lk_out f 1))) H := hP
    have hD : va_D A ((lk_W cI cZ cJ a b o) (σ, ρ, (lk_out f 1))) := hD
    refine lv_goto (tgt := 24) hx hb dL_isTaken_17 (by decide) ?_
    refine lv_iconst (v := 0) hx hb dL_isTaken_24 (by decide) ?_
    rw [show lk_out f 1 = lk_out f (lk_z r) from by rw [e1]] at hP hD
    exact W.iret hx hb hr (fun t ht hW => ⟨⟨_, _, rfl, ⟨rfl, rfl⟩, by rw [ht]; exact hP, hD⟩, hS.F ht⟩) hS.2.2 dL_isTaken_25
abbrev rt_L_isTaken : Room := { frames := 8, cells := 1, slots := 6, locals := 135 }
set_option maxHeartbeats 4000000 in
set_option maxRecDepth 100000 in
theorem t_L_isTaken (l : Launch) (hl0 : l.stackTraces = false) (D : va_G) (cI cZ cJ : ClassId) (a b : Nat → Nat) (o : Nat) (A : Nat → Prop) (p0 : Int32) (p1 : Int32) (σ : ck_S) (ρ : mk_S) (f : Nat → Int64) (h : tX7_isTaken p0 p1 σ = some ()) : Met l yL_isTaken wsL_isTaken rt_L_isTaken (va_Pc [.ref (a 0), .int p0, .int p1, .ref o] (fun U => ik_P D (lk_T cI cZ cJ) ck_N (lk_W cI cZ cJ a b o) A (σ, ρ, f) U ∧ xk_P A U)) (ik_Qi D (lk_W cI cZ cJ a b o) A 1 (σ, ρ, f)) 1 6 A := by
  refine va_MetW (hh := [(0, 17, 20, 13)]) (cc := cL_isTaken) (maxL := 5) (ret := (some .int)) (by decide) rfl ?_
  intro p e s m args below meth c s₁ B hml hv
  obtain ⟨hAr, ⟨hP, hK, hD, hN⟩, hX⟩ := hv
  have hx := B.exec
  have hb := B.bytes
  have hr := B.returns
  have hts := atoms_spec (ws := wsL_isTaken) B.pre
  have hown : s.vm.findClass RL = some m.cls := findClass_of_methodNamed B.named
  have hlocks := B.notSynchronized
  have htab := vx_table (x := yL_isTaken) B (hts _ List.mem_cons_self)
  have hS : va_S A s.heap s.heap [] := va_S.rf
  have hl := lv_entry ([.ref (a 0), .int p0, .int p1, .ref o]) (n := 5) (Nat.le_of_ble_eq_true rfl)
  rw [show entryFrame m args 5 = entryFrame m ([.ref (a 0), .int p0, .int p1, .ref o] : List Value).toArray 5 from by rw [hAr], lg_entry_eq]
  generalize (lg_sl ([.ref (a 0), .int p0, .int p1, .ref o]) ++ List.replicate (5 - (lg_sl ([.ref (a 0), .int p0, .int p1, .ref o])).length) Slot.unset).toArray = ls at hl ⊢
  have hl : lv_has ls 5 [(0, .ref (a 0)), (1, .int p0), (2, .int p1), (3, .ref o)] := hl
  refine lv_aload_n hx hb dL_isTaken_0 rfl (lv_at hl 3 rfl) ?_
  refine lv_iconst (v := 0) hx hb dL_isTaken_1 (by decide) ?_
  refine lv_aload_n hx hb dL_isTaken_2 rfl (lv_at hl 0 rfl) ?_
  refine lv_iload_n hx hb dL_isTaken_3 rfl (lv_at hl 1 rfl) ?_
  refine lv_iload_n hx hb dL_isTaken_4 rfl (lv_at hl 2 rfl) ?_
  refine vx_calli (vx_runV (As := [.int p0, .int p1]) (rest := [.int 0, .ref o]) ⟨hx, hb, hml, hown, hts⟩ (fr_xi (isT := [0, 1]) (fun A => t_X7_isTaken l hl0 D cI cZ a A p0 p1 σ h) (lk_em cI cZ cJ a b o σ σ ρ f) rfl (fun _ h => h) A) (cwV 2 hts gL_isTaken_X7_isTaken rfl rfl rfl (by decide +kernel) ⟨Nat.le_of_ble_eq_true rfl, Nat.le_of_ble_eq_true rfl⟩) ⟨xk_blind, (va_recv hK hP (ci := 5) (q0 := 0) rfl rfl), xk_pre hP hK hD hN hX hS⟩ rfl rfl hl.1 rfl (lv_room (Nat.le_of_ble_eq_true rfl)) dL_isTaken_5 ⟨by decide, by decide⟩) hS (fun q _ h => h) (fun q h => h) (fun q _ h => h) (fun E ce q9 u t H1 locs1 ht hvm hpx hBX hz hk hS hce hcv hcl => ?_) (fun r u t H1 locs1 ht hvm hp => hp.elim)
  subst hpx
  obtain ⟨hE, hP, hD⟩ := hBX
  rw [ht] at hP
  rw [hE] at hcl
  refine xk_catch (x := { startPc := 0, endPc := 17, handlerPc := 20, catchType := 13 }) hown htab (by decide) (by decide) (hts (.classLink RL 13 xk_E) (by decide +kernel)) hX.2.2.1.1 hce hcv hcl ?_
  refine lv_astore (lv' := [(4, .ref q9), (0, .ref (a 0)), (1, .int p0), (2, .int p1), (3, .ref o)]) hx hb dL_isTaken_20 hl (by decide) rfl (fun ls hl => ?_)
  refine lv_iconst (v := 1) hx hb dL_isTaken_22 (by decide) ?_
  exact W.iret hx hb hr (fun t ht hW => ⟨⟨_, _, rfl, ⟨rfl, rfl⟩, by rw [ht]; exact hP, hD⟩, hS.F ht⟩) hS.2.2 dL_isTaken_23
abbrev rm_L_told : Room := { frames := 2, cells := 0, slots := 0, locals := 42 }
set_option maxHeartbeats 4000000 in
set_option maxRecDepth 100000 in
theorem c_L_told (l : Launch) (D : va_G) (cI cZ cJ : ClassId) (a b : Nat → Nat) (o : Nat) (A : Nat → Prop) (p0 : Int32) (σ : ck_S) (r : Int32) (ρ : mk_S) (f : Nat → Int64) (h : fX7_told p0 σ = some r) : Met l yL_told wsL_told rm_L_told (va_Pc [.ref (a 0), .int p0, .ref o] (ik_P D (lk_T cI cZ cJ) ck_N (lk_W cI cZ cJ a b o) A (σ, ρ, f))) (ik_Qi D (lk_W cI cZ cJ a b o) A 0 (σ, ρ, lk_out f r.toInt64)) 0 0 A := by
  refine va_MetW (hh := [(0, 9, 12, 13)]) (cc := cL_told) (maxL := 4) (ret := (some .int)) (by decide) rfl ?_
  intro p e s m args below meth c s₁ B hml hv
  obtain ⟨hAr, hP, hK, hD, hN⟩ := hv
  have hx := B.exec
  have hb := B.bytes
  have hr := B.returns
  have hts := atoms_spec (ws := wsL_told) B.pre
  have hown : s.vm.findClass RL = some m.cls := findClass_of_methodNamed B.named
  have hlocks := B.notSynchronized
  have hS : va_S A s.heap s.heap [] := va_S.rf
  have hl := lv_entry ([.ref (a 0), .int p0, .ref o]) (n := 4) (Nat.le_of_ble_eq_true rfl)
  rw [show entryFrame m args 4 = entryFrame m ([.ref (a 0), .int p0, .ref o] : List Value).toArray 4 from by rw [hAr], lg_entry_eq]
  generalize (lg_sl ([.ref (a 0), .int p0, .ref o]) ++ List.replicate (4 - (lg_sl ([.ref (a 0), .int p0, .ref o])).length) Slot.unset).toArray = ls at hl ⊢
  have hl : lv_has ls 4 [(0, .ref (a 0)), (1, .int p0), (2, .ref o)] := hl
  refine lv_aload_n hx hb dL_told_0 rfl (lv_at hl 2 rfl) ?_
  refine lv_iconst (v := 0) hx hb dL_told_1 (by decide) ?_
  refine lv_aload_n hx hb dL_told_2 rfl (lv_at hl 0 rfl) ?_
  refine lv_iload_n hx hb dL_told_3 rfl (lv_at hl 1 rfl) ?_
  refine ik_Vi (As := [.int p0]) (rest := [.int 0, .ref o]) ⟨hx, hb, hml, hown, hts⟩ (fr_i (isT := [0, 1]) (fun A => c_X7_told l D cI cZ a A p0 σ r h) (lk_em cI cZ cJ a b o σ σ ρ f) rfl (fun _ h => h) A) (cwV 1 hts gL_told_X7_told rfl rfl rfl (by decide +kernel) ⟨Nat.le_of_ble_eq_true rfl, Nat.le_of_ble_eq_true rfl⟩) (va_recv hK hP (ci := 5) (q0 := 0) rfl rfl) hP hK hD hN hS rfl hl.1 rfl (Nat.le_of_ble_eq_true rfl) dL_told_4 (fun H locs hP hD hS => ?_)
  refine lv_i2l (v := r.toInt64) hx hb dL_told_7 rfl ?_
  refine va_last hx hb hK hP hD hS 25 2 rfl rfl (show vp_in (0 : Int32) 1 by unfold vp_in; decide) dL_told_8 (fun H locs hP hD hS => ?_)
  have hP : va_P D vwCl ((lk_W cI cZ cJ a b o) (σ, ρ, (lk_out f r.toInt64))) H := hP
  have hD : va_D A ((lk_W cI cZ cJ a b o) (σ, ρ, (lk_out f r.toInt64))) := hD
  refine lv_goto (tgt := 15) hx hb dL_told_9 (by decide) ?_
  refine lv_iconst (v := 0) hx hb dL_told_15 (by decide) ?_
  exact W.iret hx hb hr (fun t ht hW => ⟨⟨_, _, rfl, ⟨rfl, rfl⟩, by rw [ht]; exact hP, hD⟩, hS.F ht⟩) hS.2.2 dL_told_16
abbrev rt_L_told : Room := { frames := 8, cells := 1, slots := 6, locals := 132 }
set_option maxHeartbeats 4000000 in
set_option maxRecDepth 100000 in
theorem t_L_told (l : Launch) (hl0 : l.stackTraces = false) (D : va_G) (cI cZ cJ : ClassId) (a b : Nat → Nat) (o : Nat) (A : Nat → Prop) (p0 : Int32) (σ : ck_S) (ρ : mk_S) (f : Nat → Int64) (h : tX7_told p0 σ = some ()) : Met l yL_told wsL_told rt_L_told (va_Pc [.ref (a 0), .int p0, .ref o] (fun U => ik_P D (lk_T cI cZ cJ) ck_N (lk_W cI cZ cJ a b o) A (σ, ρ, f) U ∧ xk_P A U)) (ik_Qi D (lk_W cI cZ cJ a b o) A 1 (σ, ρ, f)) 1 6 A := by
  refine va_MetW (hh := [(0, 9, 12, 13)]) (cc := cL_told) (maxL := 4) (ret := (some .int)) (by decide) rfl ?_
  intro p e s m args below meth c s₁ B hml hv
  obtain ⟨hAr, ⟨hP, hK, hD, hN⟩, hX⟩ := hv
  have hx := B.exec
  have hb := B.bytes
  have hr := B.returns
  have hts := atoms_spec (ws := wsL_told) B.pre
  have hown : s.vm.findClass RL = some m.cls := findClass_of_methodNamed B.named
  have hlocks := B.notSynchronized
  have htab := vx_table (x := yL_told) B (hts _ List.mem_cons_self)
  have hS : va_S A s.heap s.heap [] := va_S.rf
  have hl := lv_entry ([.ref (a 0), .int p0, .ref o]) (n := 4) (Nat.le_of_ble_eq_true rfl)
  rw [show entryFrame m args 4 = entryFrame m ([.ref (a 0), .int p0, .ref o] : List Value).toArray 4 from by rw [hAr], lg_entry_eq]
  generalize (lg_sl ([.ref (a 0), .int p0, .ref o]) ++ List.replicate (4 - (lg_sl ([.ref (a 0), .int p0, .ref o])).length) Slot.unset).toArray = ls at hl ⊢
  have hl : lv_has ls 4 [(0, .ref (a 0)), (1, .int p0), (2, .ref o)] := hl
  refine lv_aload_n hx hb dL_told_0 rfl (lv_at hl 2 rfl) ?_
  refine lv_iconst (v := 0) hx hb dL_told_1 (by decide) ?_
  refine lv_aload_n hx hb dL_told_2 rfl (lv_at hl 0 rfl) ?_
  refine lv_iload_n hx hb dL_told_3 rfl (lv_at hl 1 rfl) ?_
  refine vx_calli (vx_runV (As := [.int p0]) (rest := [.int 0, .ref o]) ⟨hx, hb, hml, hown, hts⟩ (fr_xi (isT := [0, 1]) (fun A => t_X7_told l hl0 D cI cZ a A p0 σ h) (lk_em cI cZ cJ a b o σ σ ρ f) rfl (fun _ h => h) A) (cwV 1 hts gL_told_X7_told rfl rfl rfl (by decide +kernel) ⟨Nat.le_of_ble_eq_true rfl, Nat.le_of_ble_eq_true rfl⟩) ⟨xk_blind, (va_recv hK hP (ci := 5) (q0 := 0) rfl rfl), xk_pre hP hK hD hN hX hS⟩ rfl rfl hl.1 rfl (lv_room (Nat.le_of_ble_eq_true rfl)) dL_told_4 ⟨by decide, by decide⟩) hS (fun q _ h => h) (fun q h => h) (fun q _ h => h) (fun E ce q9 u t H1 locs1 ht hvm hpx hBX hz hk hS hce hcv hcl => ?_) (fun r u t H1 locs1 ht hvm hp => hp.elim)
  subst hpx
  obtain ⟨hE, hP, hD⟩ := hBX
  rw [ht] at hP
  rw [hE] at hcl
  refine xk_catch (x := { startPc := 0, endPc := 9, handlerPc := 12, catchType := 13 }) hown htab (by decide) (by decide) (hts (.classLink RL 13 xk_E) (by decide +kernel)) hX.2.2.1.1 hce hcv hcl ?_
  refine lv_astore_n (lv' := [(3, .ref q9), (0, .ref (a 0)), (1, .int p0), (2, .ref o)]) hx hb dL_told_12 rfl hl (by decide) rfl (fun ls hl => ?_)
  refine lv_iconst (v := 1) hx hb dL_told_13 (by decide) ?_
  exact W.iret hx hb hr (fun t ht hW => ⟨⟨_, _, rfl, ⟨rfl, rfl⟩, by rw [ht]; exact hP, hD⟩, hS.F ht⟩) hS.2.2 dL_told_14
