/-! calls at any count of cells -/
section IKG
variable {S : Type} {p : Program} {l : Launch} {e : Env} {R : Room} {s : State} {m : MethodId} {args : Array Value} {below : List Frame} {meth : Method} {c : Code} {H : Heap} {locs : List Loc} {Q : State → Prop} {cc : ByteArray} {pc : Nat} {ls : Array Slot} {rest st0 : List Value} {cells slots : Nat}
variable {D : va_G} {ty : List (ClassId × FieldType)} {N : List (String × Nat × MethodName)} {Wd : S → va_W} {A : Nat → Prop} {σ σ1 : S} {own C : String} {y : MethodName} {bytes : ByteArray} {maxL nL n index : Nat} {ret : Option FieldType} {ws Ts : List Cond} {rm : Room} {As : List Value} {b : Nat} {r : Int32} {mc ms : Nat}
theorem ig_Vi (S0 : CallFix p m c cc nL s args Ts own) (hM : Met l y ws rm (va_Pc (.ref b :: As) (ik_P D ty N Wd A σ)) (ik_Qi D Wd A r σ1) mc ms A) (cw : CallW R s args own C index y bytes maxL ret ws rm mc ms n) (hrc : ∃ cell : Cell, H[b]? = some cell ∧ cell.vm.isStatics = false ∧ s.vm.findClass C = some cell.cls)
    (hP : va_P D vwCl (Wd σ) H) (hK : va_K D vwCl ty s) (hD : va_D A (Wd σ)) (hN : ∀ q ∈ N, va_Nw (.methodLinkNest q.1 q.2.1 q.2.2 "ImageChecker") s) (hS : va_S A s.heap H locs) (hn : As.length = n) (hsize : ls.size = nL) (hst : st0 = As.reverse ++ .ref b :: rest) (hW : (rest.map fun v => v.category).sum ≤ 8) (hdg : decode cc pc = .ok (.invokevirtual index, 3)) (hcap : cells + mc ≤ R.cells ∧ slots + ms ≤ R.slots)
    (kk : ∀ (H1 : Heap) (locs1 : List Loc), va_P D vwCl (Wd σ1) H1 → va_D A (Wd σ1) → va_S A s.heap H1 locs1 → W p l e R s m args below meth c H1 locs1 (cells + mc) (slots + ms) Q (F0 m (pc + 3) ls (.int r :: rest))) : W p l e R s m args below meth c H locs cells slots Q (F0 m pc ls st0) := by
  refine va_calli (va_runV (As := As) (rest := rest) S0 hM cw ⟨ik_blind, hrc, ik_pre hP hK hD hN⟩ rfl hn hsize hst (lv_room hW) hdg hcap) hS (fun q _ h => h) (fun q h => h) (fun r1 u t H1 locs1 ht hvm hw hB hz hk hS1 => ?_)
  obtain ⟨rfl, rfl⟩ := hw
  obtain ⟨hP1, hD1⟩ := hB
  rw [ht] at hP1
  exact kk H1 locs1 hP1 hD1 hS1
theorem ig_Vv (S0 : CallFix p m c cc nL s args Ts own) (hM : Met l y ws rm (va_Pc (.ref b :: As) (ik_P D ty N Wd A σ)) (ik_Qv D Wd A σ1) mc ms A) (cw : CallW R s args own C index y bytes maxL ret ws rm mc ms n) (hrc : ∃ cell : Cell, H[b]? = some cell ∧ cell.vm.isStatics = false ∧ s.vm.findClass C = some cell.cls)
    (hP : va_P D vwCl (Wd σ) H) (hK : va_K D vwCl ty s) (hD : va_D A (Wd σ)) (hN : ∀ q ∈ N, va_Nw (.methodLinkNest q.1 q.2.1 q.2.2 "ImageChecker") s) (hS : va_S A s.heap H locs) (hn : As.length = n) (hsize : ls.size = nL) (hst : st0 = As.reverse ++ .ref b :: rest) (hW : (rest.map fun v => v.category).sum ≤ 8) (hdg : decode cc pc = .ok (.invokevirtual index, 3)) (hcap : cells + mc ≤ R.cells ∧ slots + ms ≤ R.slots)
    (kk : ∀ (H1 : Heap) (locs1 : List Loc), va_P D vwCl (Wd σ1) H1 → va_D A (Wd σ1) → va_S A s.heap H1 locs1 → W p l e R s m args below meth c H1 locs1 (cells + mc) (slots + ms) Q (F0 m (pc + 3) ls rest)) : W p l e R s m args below meth c H locs cells slots Q (F0 m pc ls st0) := by
  refine va_callv (va_runV (As := As) (rest := rest) S0 hM cw ⟨ik_blind, hrc, ik_pre hP hK hD hN⟩ rfl hn hsize hst (lv_room hW) hdg hcap) hS (fun q _ h => h) (fun q h => h) (fun u t H1 locs1 ht hvm hw hB hz hk hS1 => ?_)
  subst hw
  obtain ⟨hP1, hD1⟩ := hB
  rw [ht] at hP1
  exact kk H1 locs1 hP1 hD1 hS1
end IKG
def mk_0 : mk_S := (0, fun _ => 0, fun _ => 0, fun _ => 0, fun _ => 0, fun _ => 0, fun _ => 0, fun _ => 0, 0, fun _ => 0)
abbrev rm_X8_init : Room := { frames := 2, cells := 8, slots := 3183, locals := 40 }
theorem in_X8_init_X8 : ∀ w ∈ wsX80, w ∈ wsX8_init := by decide +kernel
set_option maxHeartbeats 4000000 in
set_option maxRecDepth 100000 in
theorem c_X8_init (l : Launch) (D : va_G) (cI cZ : ClassId) (h0 sz : Nat) (σ1 : mk_S) (h : fX8_makeWhole mk_0 = some σ1) : Met l yX8_init wsX8_init rm_X8_init (va_Pc [.ref h0] (fun U => U.heap.size = sz ∧ va_P D vwCl [(h0, .inr (6, [.int 0, .null, .null, .null, .null, .null, .null, .null, .int 0, .null]))] U.heap ∧ va_K D vwCl [(cI, .int), (cZ, .boolean)] U ∧ va_D (fun _ => True) [(h0, .inr (6, [.int 0, .null, .null, .null, .null, .null, .null, .null, .int 0, .null]))] ∧ ∀ q ∈ ([] : List (String × Nat × MethodName)), va_Nw (.methodLinkNest q.1 q.2.1 q.2.2 "ImageChecker") U)) (va_Qv (fun a : Nat → Nat => a 0 = h0) (fun (a : Nat → Nat) t => va_P D vwCl (mk_W cI cZ a σ1) t.heap ∧ va_D (va_A [(h0, .inr (6, [.int 0, .null, .null, .null, .null, .null, .null, .null, .int 0, .null]))] sz) (mk_W cI cZ a σ1)) (va_A [(h0, .inr (6, [.int 0, .null, .null, .null, .null, .null, .null, .null, .int 0, .null]))] sz)) 8 3183 (va_A [(h0, .inr (6, [.int 0, .null, .null, .null, .null, .null, .null, .null, .int 0, .null]))] sz) := by
  refine Met.ofW (cc := cX8_init) (maxL := 1) (ret := none) (by decide) rfl ?_
  intro p e s m args below meth c s₁ B hml hv
  obtain ⟨hAr, hsz, hP, hK, hD0, hN⟩ := hv
  have hx := B.exec
  have hb := B.bytes
  have hr := B.returns
  have hts := atoms_spec (ws := wsX8_init) B.pre
  have hown : s.vm.findClass RX8 = some m.cls := findClass_of_methodNamed B.named
  have hlocks := B.notSynchronized
  have hin : meth.name = "<init>" := (name_of_methodNamed B.named B.method).1
  subst hsz
  have hD := hD0.self (sz := s.heap.size)
  generalize hAe : va_A [(h0, .inr (6, [.int 0, .null, .null, .null, .null, .null, .null, .null, .int 0, .null]))] s.heap.size = A at hD ⊢
  have hA : ∀ q : Nat, s.heap.size ≤ q → A q := fun q h => by rw [← hAe]; exact Or.inr h
  have hS : va_S A s.heap s.heap [] := va_S.rf
  have hl := lv_entry ([.ref h0]) (n := 1) (Nat.le_of_ble_eq_true rfl)
  rw [show entryFrame m args 1 = entryFrame m ([.ref h0] : List Value).toArray 1 from by rw [hAr], lg_entry_eq]
  generalize (lg_sl ([.ref h0]) ++ List.replicate (1 - (lg_sl ([.ref h0])).length) Slot.unset).toArray = ls at hl ⊢
  have hl : lv_has ls 1 [(0, .ref h0)] := hl
  refine lv_aload_n hx hb dX8_init_0 rfl (lv_at hl 0 rfl) ?_
  refine W.objInit hx hb hown (hts (.methodLink RX8 1 objectInit) (by decide +kernel)) (hts (.instanceMethod objectInit) (by decide +kernel)) (hts (.code objectInit ⟨#[0xb1]⟩ 1 none) (by decide +kernel)) rfl (by rw [hml]; exact hl.1) rfl dX8_init_1 (Nat.le_of_ble_eq_true rfl) (Nat.le_of_ble_eq_true rfl) ?_
  refine W.eq (g2 := F0 m 4 ls []) rfl ?_
  refine lv_aload_n hx hb dX8_init_4 rfl (lv_at hl 0 rfl) ?_
  refine lv_sipush (v := 1429) hx hb dX8_init_5 (by decide) ?_
  refine nk_newI hx hb (hts (.arrayClass .int) (by decide +kernel)) hK 0 rfl hP hD hS hA 1429 (by decide) (by decide +kernel) (by decide) (show 0 + 1 ≤ 8 by decide) (show 0 + 1429 ≤ 3183 by decide) dX8_init_8 (fun q1 H hP hD hS => ?_)
  have hP : va_P D vwCl [(h0, .inr (6, [.int 0, .null, .null, .null, .null, .null, .null, .null, .int 0, .null])), (q1, .inl (cI, 1429, .inl (fun _ => 0)))] H := hP
  have hD : va_D A [(h0, .inr (6, [.int 0, .null, .null, .null, .null, .null, .null, .null, .int 0, .null])), (q1, .inl (cI, 1429, .inl (fun _ => 0)))] := hD
  refine W.widen (k := 1) (n := 1429) (by decide) (by decide) ?_
  refine va_putF (D := D) (ci := 6) (v := .ref q1) (ty := .array .int) (C := RX8) (T := TX8) (N := 10) hx hb hts in_X8_init_X8 tyX8 tyX8_ok nmX8 hown hK hP hD hS 0 rfl rfl 1 (by decide) (hts (.fieldLink RX8 7 "ImageCheckerModel" "all" "[I") (by decide +kernel)) (fun _ h9 => h9) rfl hin rfl (by decide +kernel) rfl rfl (Nat.le_of_ble_eq_true rfl) dX8_init_10 (fun H locs hP hD hS => ?_)
  have hP : va_P D vwCl [(h0, .inr (6, [.int 0, .ref q1, .null, .null, .null, .null, .null, .null, .int 0, .null])), (q1, .inl (cI, 1429, .inl (fun _ => 0)))] H := hP
  have hD : va_D A [(h0, .inr (6, [.int 0, .ref q1, .null, .null, .null, .null, .null, .null, .int 0, .null])), (q1, .inl (cI, 1429, .inl (fun _ => 0)))] := hD
  refine lv_aload_n hx hb dX8_init_13 rfl (lv_at hl 0 rfl) ?_
  refine lv_sipush (v := 1429) hx hb dX8_init_14 (by decide) ?_
  refine nk_newI hx hb (hts (.arrayClass .int) (by decide +kernel)) hK 0 rfl hP hD hS hA 1429 (by decide) (by decide +kernel) (by decide) (show 1 + 1 ≤ 8 by decide) (show 1429 + 1429 ≤ 3183 by decide) dX8_init_17 (fun q2 H hP hD hS => ?_)
  have hP : va_P D vwCl [(h0, .inr (6, [.int 0, .ref q1, .null, .null, .null, .null, .null, .null, .int 0, .null])), (q1, .inl (cI, 1429, .inl (fun _ => 0))), (q2, .inl (cI, 1429, .inl (fun _ => 0)))] H := hP
  have hD : va_D A [(h0, .inr (6, [.int 0, .ref q1, .null, .null, .null, .null, .null, .null, .int 0, .null])), (q1, .inl (cI, 1429, .inl (fun _ => 0))), (q2, .inl (cI, 1429, .inl (fun _ => 0)))] := hD
  refine W.widen (k := 2) (n := 2858) (by decide) (by decide) ?_
  refine va_putF (D := D) (ci := 6) (v := .ref q2) (ty := .array .int) (C := RX8) (T := TX8) (N := 10) hx hb hts in_X8_init_X8 tyX8 tyX8_ok nmX8 hown hK hP hD hS 0 rfl rfl 2 (by decide) (hts (.fieldLink RX8 13 "ImageCheckerModel" "before" "[I") (by decide +kernel)) (fun _ h9 => h9) rfl hin rfl (by decide +kernel) rfl rfl (Nat.le_of_ble_eq_true rfl) dX8_init_19 (fun H locs hP hD hS => ?_)
  have hP : va_P D vwCl [(h0, .inr (6, [.int 0, .ref q1, .ref q2, .null, .null, .null, .null, .null, .int 0, .null])), (q1, .inl (cI, 1429, .inl (fun _ => 0))), (q2, .inl (cI, 1429, .inl (fun _ => 0)))] H := hP
  have hD : va_D A [(h0, .inr (6, [.int 0, .ref q1, .ref q2, .null, .null, .null, .null, .null, .int 0, .null])), (q1, .inl (cI, 1429, .inl (fun _ => 0))), (q2, .inl (cI, 1429, .inl (fun _ => 0)))] := hD
  refine lv_aload_n hx hb dX8_init_22 rfl (lv_at hl 0 rfl) ?_
  refine lv_bipush (v := 25) hx hb dX8_init_23 (by decide) ?_
  refine nk_newZ hx hb (hts (.arrayClass .boolean) (by decide +kernel)) hK 1 rfl hP hD hS hA 25 (by decide) (by decide +kernel) (by decide) (show 2 + 1 ≤ 8 by decide) (show 2858 + 25 ≤ 3183 by decide) dX8_init_25 (fun q3 H hP hD hS => ?_)
  have hP : va_P D vwCl [(h0, .inr (6, [.int 0, .ref q1, .ref q2, .null, .null, .null, .null, .null, .int 0, .null])), (q1, .inl (cI, 1429, .inl (fun _ => 0))), (q2, .inl (cI, 1429, .inl (fun _ => 0))), (q3, .inl (cZ, 25, .inl (fun _ => 0)))] H := hP
  have hD : va_D A [(h0, .inr (6, [.int 0, .ref q1, .ref q2, .null, .null, .null, .null, .null, .int 0, .null])), (q1, .inl (cI, 1429, .inl (fun _ => 0))), (q2, .inl (cI, 1429, .inl (fun _ => 0))), (q3, .inl (cZ, 25, .inl (fun _ => 0)))] := hD
  refine W.widen (k := 3) (n := 2883) (by decide) (by decide) ?_
  refine va_putF (D := D) (ci := 6) (v := .ref q3) (ty := .array .boolean) (C := RX8) (T := TX8) (N := 10) hx hb hts in_X8_init_X8 tyX8 tyX8_ok nmX8 hown hK hP hD hS 0 rfl rfl 3 (by decide) (hts (.fieldLink RX8 16 "ImageCheckerModel" "held" "[Z") (by decide +kernel)) (fun _ h9 => h9) rfl hin rfl (by decide +kernel) rfl rfl (Nat.le_of_ble_eq_true rfl) dX8_init_27 (fun H locs hP hD hS => ?_)
  have hP : va_P D vwCl [(h0, .inr (6, [.int 0, .ref q1, .ref q2, .ref q3, .null, .null, .null, .null, .int 0, .null])), (q1, .inl (cI, 1429, .inl (fun _ => 0))), (q2, .inl (cI, 1429, .inl (fun _ => 0))), (q3, .inl (cZ, 25, .inl (fun _ => 0)))] H := hP
  have hD : va_D A [(h0, .inr (6, [.int 0, .ref q1, .ref q2, .ref q3, .null, .null, .null, .null, .int 0, .null])), (q1, .inl (cI, 1429, .inl (fun _ => 0))), (q2, .inl (cI, 1429, .inl (fun _ => 0))), (q3, .inl (cZ, 25, .inl (fun _ => 0)))] := hD
  refine lv_aload_n hx hb dX8_init_30 rfl (lv_at hl 0 rfl) ?_
  refine lv_sipush (v := 201) hx hb dX8_init_31 (by decide) ?_
  refine nk_newI hx hb (hts (.arrayClass .int) (by decide +kernel)) hK 0 rfl hP hD hS hA 201 (by decide) (by decide +kernel) (by decide) (show 3 + 1 ≤ 8 by decide) (show 2883 + 201 ≤ 3183 by decide) dX8_init_34 (fun q4 H hP hD hS => ?_)
  have hP : va_P D vwCl [(h0, .inr (6, [.int 0, .ref q1, .ref q2, .ref q3, .null, .null, .null, .null, .int 0, .null])), (q1, .inl (cI, 1429, .inl (fun _ => 0))), (q2, .inl (cI, 1429, .inl (fun _ => 0))), (q3, .inl (cZ, 25, .inl (fun _ => 0))), (q4, .inl (cI, 201, .inl (fun _ => 0)))] H := hP
  have hD : va_D A [(h0, .inr (6, [.int 0, .ref q1, .ref q2, .ref q3, .null, .null, .null, .null, .int 0, .null])), (q1, .inl (cI, 1429, .inl (fun _ => 0))), (q2, .inl (cI, 1429, .inl (fun _ => 0))), (q3, .inl (cZ, 25, .inl (fun _ => 0))), (q4, .inl (cI, 201, .inl (fun _ => 0)))] := hD
  refine W.widen (k := 4) (n := 3084) (by decide) (by decide) ?_
  refine va_putF (D := D) (ci := 6) (v := .ref q4) (ty := .array .int) (C := RX8) (T := TX8) (N := 10) hx hb hts in_X8_init_X8 tyX8 tyX8_ok nmX8 hown hK hP hD hS 0 rfl rfl 4 (by decide) (hts (.fieldLink RX8 20 "ImageCheckerModel" "owner" "[I") (by decide +kernel)) (fun _ h9 => h9) rfl hin rfl (by decide +kernel) rfl rfl (Nat.le_of_ble_eq_true rfl) dX8_init_36 (fun H locs hP hD hS => ?_)
  have hP : va_P D vwCl [(h0, .inr (6, [.int 0, .ref q1, .ref q2, .ref q3, .ref q4, .null, .null, .null, .int 0, .null])), (q1, .inl (cI, 1429, .inl (fun _ => 0))), (q2, .inl (cI, 1429, .inl (fun _ => 0))), (q3, .inl (cZ, 25, .inl (fun _ => 0))), (q4, .inl (cI, 201, .inl (fun _ => 0)))] H := hP
  have hD : va_D A [(h0, .inr (6, [.int 0, .ref q1, .ref q2, .ref q3, .ref q4, .null, .null, .null, .int 0, .null])), (q1, .inl (cI, 1429, .inl (fun _ => 0))), (q2, .inl (cI, 1429, .inl (fun _ => 0))), (q3, .inl (cZ, 25, .inl (fun _ => 0))), (q4, .inl (cI, 201, .inl (fun _ => 0)))] := hD
  refine lv_aload_n hx hb dX8_init_39 rfl (lv_at hl 0 rfl) ?_
  refine lv_bipush (v := 25) hx hb dX8_init_40 (by decide) ?_
  refine nk_newZ hx hb (hts (.arrayClass .boolean) (by decide +kernel)) hK 1 rfl hP hD hS hA 25 (by decide) (by decide +kernel) (by decide) (show 4 + 1 ≤ 8 by decide) (show 3084 + 25 ≤ 3183 by decide) dX8_init_42 (fun q5 H hP hD hS => ?_)
  have hP : va_P D vwCl [(h0, .inr (6, [.int 0, .ref q1, .ref q2, .ref q3, .ref q4, .null, .null, .null, .int 0, .null])), (q1, .inl (cI, 1429, .inl (fun _ => 0))), (q2, .inl (cI, 1429, .inl (fun _ => 0))), (q3, .inl (cZ, 25, .inl (fun _ => 0))), (q4, .inl (cI, 201, .inl (fun _ => 0))), (q5, .inl (cZ, 25, .inl (fun _ => 0)))] H := hP
  have hD : va_D A [(h0, .inr (6, [.int 0, .ref q1, .ref q2, .ref q3, .ref q4, .null, .null, .null, .int 0, .null])), (q1, .inl (cI, 1429, .inl (fun _ => 0))), (q2, .inl (cI, 1429, .inl (fun _ => 0))), (q3, .inl (cZ, 25, .inl (fun _ => 0))), (q4, .inl (cI, 201, .inl (fun _ => 0))), (q5, .inl (cZ, 25, .inl (fun _ => 0)))] := hD
  refine W.widen (k := 5) (n := 3109) (by decide) (by decide) ?_
  refine va_putF (D := D) (ci := 6) (v := .ref q5) (ty := .array .boolean) (C := RX8) (T := TX8) (N := 10) hx hb hts in_X8_init_X8 tyX8 tyX8_ok nmX8 hown hK hP hD hS 0 rfl rfl 5 (by decide) (hts (.fieldLink RX8 23 "ImageCheckerModel" "reached" "[Z") (by decide +kernel)) (fun _ h9 => h9) rfl hin rfl (by decide +kernel) rfl rfl (Nat.le_of_ble_eq_true rfl) dX8_init_44 (fun H locs hP hD hS => ?_)
  have hP : va_P D vwCl [(h0, .inr (6, [.int 0, .ref q1, .ref q2, .ref q3, .ref q4, .ref q5, .null, .null, .int 0, .null])), (q1, .inl (cI, 1429, .inl (fun _ => 0))), (q2, .inl (cI, 1429, .inl (fun _ => 0))), (q3, .inl (cZ, 25, .inl (fun _ => 0))), (q4, .inl (cI, 201, .inl (fun _ => 0))), (q5, .inl (cZ, 25, .inl (fun _ => 0)))] H := hP
  have hD : va_D A [(h0, .inr (6, [.int 0, .ref q1, .ref q2, .ref q3, .ref q4, .ref q5, .null, .null, .int 0, .null])), (q1, .inl (cI, 1429, .inl (fun _ => 0))), (q2, .inl (cI, 1429, .inl (fun _ => 0))), (q3, .inl (cZ, 25, .inl (fun _ => 0))), (q4, .inl (cI, 201, .inl (fun _ => 0))), (q5, .inl (cZ, 25, .inl (fun _ => 0)))] := hD
  refine lv_aload_n hx hb dX8_init_47 rfl (lv_at hl 0 rfl) ?_
  refine lv_bipush (v := 25) hx hb dX8_init_48 (by decide) ?_
  refine nk_newZ hx hb (hts (.arrayClass .boolean) (by decide +kernel)) hK 1 rfl hP hD hS hA 25 (by decide) (by decide +kernel) (by decide) (show 5 + 1 ≤ 8 by decide) (show 3109 + 25 ≤ 3183 by decide) dX8_init_50 (fun q6 H hP hD hS => ?_)
  have hP : va_P D vwCl [(h0, .inr (6, [.int 0, .ref q1, .ref q2, .ref q3, .ref q4, .ref q5, .null, .null, .int 0, .null])), (q1, .inl (cI, 1429, .inl (fun _ => 0))), (q2, .inl (cI, 1429, .inl (fun _ => 0))), (q3, .inl (cZ, 25, .inl (fun _ => 0))), (q4, .inl (cI, 201, .inl (fun _ => 0))), (q5, .inl (cZ, 25, .inl (fun _ => 0))), (q6, .inl (cZ, 25, .inl (fun _ => 0)))] H := hP
  have hD : va_D A [(h0, .inr (6, [.int 0, .ref q1, .ref q2, .ref q3, .ref q4, .ref q5, .null, .null, .int 0, .null])), (q1, .inl (cI, 1429, .inl (fun _ => 0))), (q2, .inl (cI, 1429, .inl (fun _ => 0))), (q3, .inl (cZ, 25, .inl (fun _ => 0))), (q4, .inl (cI, 201, .inl (fun _ => 0))), (q5, .inl (cZ, 25, .inl (fun _ => 0))), (q6, .inl (cZ, 25, .inl (fun _ => 0)))] := hD
  refine W.widen (k := 6) (n := 3134) (by decide) (by decide) ?_
  refine va_putF (D := D) (ci := 6) (v := .ref q6) (ty := .array .boolean) (C := RX8) (T := TX8) (N := 10) hx hb hts in_X8_init_X8 tyX8 tyX8_ok nmX8 hown hK hP hD hS 0 rfl rfl 6 (by decide) (hts (.fieldLink RX8 26 "ImageCheckerModel" "rightly" "[Z") (by decide +kernel)) (fun _ h9 => h9) rfl hin rfl (by decide +kernel) rfl rfl (Nat.le_of_ble_eq_true rfl) dX8_init_52 (fun H locs hP hD hS => ?_)
  have hP : va_P D vwCl [(h0, .inr (6, [.int 0, .ref q1, .ref q2, .ref q3, .ref q4, .ref q5, .ref q6, .null, .int 0, .null])), (q1, .inl (cI, 1429, .inl (fun _ => 0))), (q2, .inl (cI, 1429, .inl (fun _ => 0))), (q3, .inl (cZ, 25, .inl (fun _ => 0))), (q4, .inl (cI, 201, .inl (fun _ => 0))), (q5, .inl (cZ, 25, .inl (fun _ => 0))), (q6, .inl (cZ, 25, .inl (fun _ => 0)))] H := hP
  have hD : va_D A [(h0, .inr (6, [.int 0, .ref q1, .ref q2, .ref q3, .ref q4, .ref q5, .ref q6, .null, .int 0, .null])), (q1, .inl (cI, 1429, .inl (fun _ => 0))), (q2, .inl (cI, 1429, .inl (fun _ => 0))), (q3, .inl (cZ, 25, .inl (fun _ => 0))), (q4, .inl (cI, 201, .inl (fun _ => 0))), (q5, .inl (cZ, 25, .inl (fun _ => 0))), (q6, .inl (cZ, 25, .inl (fun _ => 0)))] := hD
  refine lv_aload_n hx hb dX8_init_55 rfl (lv_at hl 0 rfl) ?_
  refine lv_bipush (v := 24) hx hb dX8_init_56 (by decide) ?_
  refine nk_newI hx hb (hts (.arrayClass .int) (by decide +kernel)) hK 0 rfl hP hD hS hA 24 (by decide) (by decide +kernel) (by decide) (show 6 + 1 ≤ 8 by decide) (show 3134 + 24 ≤ 3183 by decide) dX8_init_58 (fun q7 H hP hD hS => ?_)
  have hP : va_P D vwCl [(h0, .inr (6, [.int 0, .ref q1, .ref q2, .ref q3, .ref q4, .ref q5, .ref q6, .null, .int 0, .null])), (q1, .inl (cI, 1429, .inl (fun _ => 0))), (q2, .inl (cI, 1429, .inl (fun _ => 0))), (q3, .inl (cZ, 25, .inl (fun _ => 0))), (q4, .inl (cI, 201, .inl (fun _ => 0))), (q5, .inl (cZ, 25, .inl (fun _ => 0))), (q6, .inl (cZ, 25, .inl (fun _ => 0))), (q7, .inl (cI, 24, .inl (fun _ => 0)))] H := hP
  have hD : va_D A [(h0, .inr (6, [.int 0, .ref q1, .ref q2, .ref q3, .ref q4, .ref q5, .ref q6, .null, .int 0, .null])), (q1, .inl (cI, 1429, .inl (fun _ => 0))), (q2, .inl (cI, 1429, .inl (fun _ => 0))), (q3, .inl (cZ, 25, .inl (fun _ => 0))), (q4, .inl (cI, 201, .inl (fun _ => 0))), (q5, .inl (cZ, 25, .inl (fun _ => 0))), (q6, .inl (cZ, 25, .inl (fun _ => 0))), (q7, .inl (cI, 24, .inl (fun _ => 0)))] := hD
  refine W.widen (k := 7) (n := 3158) (by decide) (by decide) ?_
  refine va_putF (D := D) (ci := 6) (v := .ref q7) (ty := .array .int) (C := RX8) (T := TX8) (N := 10) hx hb hts in_X8_init_X8 tyX8 tyX8_ok nmX8 hown hK hP hD hS 0 rfl rfl 7 (by decide) (hts (.fieldLink RX8 29 "ImageCheckerModel" "list" "[I") (by decide +kernel)) (fun _ h9 => h9) rfl hin rfl (by decide +kernel) rfl rfl (Nat.le_of_ble_eq_true rfl) dX8_init_60 (fun H locs hP hD hS => ?_)
  have hP : va_P D vwCl [(h0, .inr (6, [.int 0, .ref q1, .ref q2, .ref q3, .ref q4, .ref q5, .ref q6, .ref q7, .int 0, .null])), (q1, .inl (cI, 1429, .inl (fun _ => 0))), (q2, .inl (cI, 1429, .inl (fun _ => 0))), (q3, .inl (cZ, 25, .inl (fun _ => 0))), (q4, .inl (cI, 201, .inl (fun _ => 0))), (q5, .inl (cZ, 25, .inl (fun _ => 0))), (q6, .inl (cZ, 25, .inl (fun _ => 0))), (q7, .inl (cI, 24, .inl (fun _ => 0)))] H := hP
  have hD : va_D A [(h0, .inr (6, [.int 0, .ref q1, .ref q2, .ref q3, .ref q4, .ref q5, .ref q6, .ref q7, .int 0, .null])), (q1, .inl (cI, 1429, .inl (fun _ => 0))), (q2, .inl (cI, 1429, .inl (fun _ => 0))), (q3, .inl (cZ, 25, .inl (fun _ => 0))), (q4, .inl (cI, 201, .inl (fun _ => 0))), (q5, .inl (cZ, 25, .inl (fun _ => 0))), (q6, .inl (cZ, 25, .inl (fun _ => 0))), (q7, .inl (cI, 24, .inl (fun _ => 0)))] := hD
  refine lv_aload_n hx hb dX8_init_63 rfl (lv_at hl 0 rfl) ?_
  refine lv_bipush (v := 25) hx hb dX8_init_64 (by decide) ?_
  refine nk_newZ hx hb (hts (.arrayClass .boolean) (by decide +kernel)) hK 1 rfl hP hD hS hA 25 (by decide) (by decide +kernel) (by decide) (show 7 + 1 ≤ 8 by decide) (show 3158 + 25 ≤ 3183 by decide) dX8_init_66 (fun q8 H hP hD hS => ?_)
  have hP : va_P D vwCl [(h0, .inr (6, [.int 0, .ref q1, .ref q2, .ref q3, .ref q4, .ref q5, .ref q6, .ref q7, .int 0, .null])), (q1, .inl (cI, 1429, .inl (fun _ => 0))), (q2, .inl (cI, 1429, .inl (fun _ => 0))), (q3, .inl (cZ, 25, .inl (fun _ => 0))), (q4, .inl (cI, 201, .inl (fun _ => 0))), (q5, .inl (cZ, 25, .inl (fun _ => 0))), (q6, .inl (cZ, 25, .inl (fun _ => 0))), (q7, .inl (cI, 24, .inl (fun _ => 0))), (q8, .inl (cZ, 25, .inl (fun _ => 0)))] H := hP
  have hD : va_D A [(h0, .inr (6, [.int 0, .ref q1, .ref q2, .ref q3, .ref q4, .ref q5, .ref q6, .ref q7, .int 0, .null])), (q1, .inl (cI, 1429, .inl (fun _ => 0))), (q2, .inl (cI, 1429, .inl (fun _ => 0))), (q3, .inl (cZ, 25, .inl (fun _ => 0))), (q4, .inl (cI, 201, .inl (fun _ => 0))), (q5, .inl (cZ, 25, .inl (fun _ => 0))), (q6, .inl (cZ, 25, .inl (fun _ => 0))), (q7, .inl (cI, 24, .inl (fun _ => 0))), (q8, .inl (cZ, 25, .inl (fun _ => 0)))] := hD
  refine W.widen (k := 8) (n := 3183) (by decide) (by decide) ?_
  refine va_putF (D := D) (ci := 6) (v := .ref q8) (ty := .array .boolean) (C := RX8) (T := TX8) (N := 10) hx hb hts in_X8_init_X8 tyX8 tyX8_ok nmX8 hown hK hP hD hS 0 rfl rfl 9 (by decide) (hts (.fieldLink RX8 32 "ImageCheckerModel" "goesOn" "[Z") (by decide +kernel)) (fun _ h9 => h9) rfl hin rfl (by decide +kernel) rfl rfl (Nat.le_of_ble_eq_true rfl) dX8_init_68 (fun H locs hP hD hS => ?_)
  have hP : va_P D vwCl [(h0, .inr (6, [.int 0, .ref q1, .ref q2, .ref q3, .ref q4, .ref q5, .ref q6, .ref q7, .int 0, .ref q8])), (q1, .inl (cI, 1429, .inl (fun _ => 0))), (q2, .inl (cI, 1429, .inl (fun _ => 0))), (q3, .inl (cZ, 25, .inl (fun _ => 0))), (q4, .inl (cI, 201, .inl (fun _ => 0))), (q5, .inl (cZ, 25, .inl (fun _ => 0))), (q6, .inl (cZ, 25, .inl (fun _ => 0))), (q7, .inl (cI, 24, .inl (fun _ => 0))), (q8, .inl (cZ, 25, .inl (fun _ => 0)))] H := hP
  have hD : va_D A [(h0, .inr (6, [.int 0, .ref q1, .ref q2, .ref q3, .ref q4, .ref q5, .ref q6, .ref q7, .int 0, .ref q8])), (q1, .inl (cI, 1429, .inl (fun _ => 0))), (q2, .inl (cI, 1429, .inl (fun _ => 0))), (q3, .inl (cZ, 25, .inl (fun _ => 0))), (q4, .inl (cI, 201, .inl (fun _ => 0))), (q5, .inl (cZ, 25, .inl (fun _ => 0))), (q6, .inl (cZ, 25, .inl (fun _ => 0))), (q7, .inl (cI, 24, .inl (fun _ => 0))), (q8, .inl (cZ, 25, .inl (fun _ => 0)))] := hD
  refine lv_aload_n hx hb dX8_init_71 rfl (lv_at hl 0 rfl) ?_
  obtain ⟨a, ea⟩ : ∃ a : Nat → Nat, a = fun k => [h0, q1, q2, q3, q4, q5, q6, q7, q8].getD k 0 := ⟨_, rfl⟩
  have e0 : a 0 = h0 := by rw [ea]; rfl
  have hP : va_P D vwCl (mk_W cI cZ a mk_0) H := by rw [ea]; exact hP.sub [0, 1, 2, 3, 4, 5, 6, 7, 8] rfl
  have hD : va_D A (mk_W cI cZ a mk_0) := by rw [ea]; exact hD.sub [0, 1, 2, 3, 4, 5, 6, 7, 8] (by decide) rfl
  have hl : lv_has ls 1 [(0, .ref (a 0))] := by rw [e0]; exact hl
  try rw [← e0]
  refine ig_Vv (As := []) (rest := []) (N := []) (Wd := mk_W cI cZ a) (σ := mk_0) (σ1 := σ1) ⟨hx, hb, hml, hown, hts⟩ (c_X8_makeWhole l D cI cZ a A mk_0 σ1 h) (cwV 0 hts gX8_init_X8_makeWhole rfl rfl rfl (by decide +kernel) ⟨Nat.le_of_ble_eq_true rfl, Nat.le_of_ble_eq_true rfl⟩) (va_recv hK hP (ci := 6) (q0 := 0) rfl rfl) hP hK hD hN hS rfl hl.1 rfl (Nat.le_of_ble_eq_true rfl) dX8_init_72 ⟨show 8 + 0 ≤ 8 by decide, show 3183 + 0 ≤ 3183 by decide⟩ (fun H locs hP hD hS => ?_)
  exact W.vret hx hb hr (fun t ht hW => ⟨⟨a, rfl, rfl, by rw [ht]; exact hP, hD⟩, hS.F ht⟩) hS.2.2 dX8_init_75
def ck_0 : ck_S := (fun _ => 0, fun _ => 0, fun _ => 0, fun _ => 0, fun _ => 0, fun _ => 0, fun _ => 0, 0, fun _ => 0, fun _ => 0, fun _ => 0, 0)
abbrev rm_X7_init : Room := { frames := 3, cells := 15, slots := 3095, locals := 65 }
theorem in_X7_init_X1 : ∀ w ∈ wsX10, w ∈ wsX7_init := by decide +kernel
theorem in_X7_init_X2 : ∀ w ∈ wsX20, w ∈ wsX7_init := by decide +kernel
theorem in_X7_init_X4 : ∀ w ∈ wsX40, w ∈ wsX7_init := by decide +kernel
theorem in_X7_init_X5 : ∀ w ∈ wsX50, w ∈ wsX7_init := by decide +kernel
theorem in_X7_init_X6 : ∀ w ∈ wsX60, w ∈ wsX7_init := by decide +kernel
theorem in_X7_init_X7 : ∀ w ∈ wsX70, w ∈ wsX7_init := by decide +kernel
set_option maxHeartbeats 4000000 in
set_option maxRecDepth 100000 in
theorem c_X7_init (l : Launch) (D : va_G) (cI cZ : ClassId) (h0 sz : Nat) (σ1 : ck_S) (h : fX5_makeWhole ck_0 = some σ1) : Met l yX7_init wsX7_init rm_X7_init (va_Pc [.ref h0] (fun U => U.heap.size = sz ∧ va_P D vwCl [(h0, .inr (5, [.null, .null, .null, .null, .null, .null]))] U.heap ∧ va_K D vwCl [(cI, .int), (cZ, .boolean)] U ∧ va_D (fun _ => True) [(h0, .inr (5, [.null, .null, .null, .null, .null, .null]))] ∧ ∀ q ∈ ck_N, va_Nw (.methodLinkNest q.1 q.2.1 q.2.2 "ImageChecker") U)) (va_Qv (fun a : Nat → Nat => a 0 = h0) (fun (a : Nat → Nat) t => va_P D vwCl (ck_W cI cZ a σ1) t.heap ∧ va_D (va_A [(h0, .inr (5, [.null, .null, .null, .null, .null, .null]))] sz) (ck_W cI cZ a σ1)) (va_A [(h0, .inr (5, [.null, .null, .null, .null, .null, .null]))] sz)) 15 3095 (va_A [(h0, .inr (5, [.null, .null, .null, .null, .null, .null]))] sz) := by
  refine Met.ofW (cc := cX7_init) (maxL := 1) (ret := none) (by decide) rfl ?_
  intro p e s m args below meth c s₁ B hml hv
  obtain ⟨hAr, hsz, hP, hK, hD0, hN⟩ := hv
  have hx := B.exec
  have hb := B.bytes
  have hr := B.returns
  have hts := atoms_spec (ws := wsX7_init) B.pre
  have hown : s.vm.findClass RX7 = some m.cls := findClass_of_methodNamed B.named
  have hlocks := B.notSynchronized
  have hin : meth.name = "<init>" := (name_of_methodNamed B.named B.method).1
  subst hsz
  have hD := hD0.self (sz := s.heap.size)
  generalize hAe : va_A [(h0, .inr (5, [.null, .null, .null, .null, .null, .null]))] s.heap.size = A at hD ⊢
  have hA : ∀ q : Nat, s.heap.size ≤ q → A q := fun q h => by rw [← hAe]; exact Or.inr h
  have hS : va_S A s.heap s.heap [] := va_S.rf
  have hl := lv_entry ([.ref h0]) (n := 1) (Nat.le_of_ble_eq_true rfl)
  rw [show entryFrame m args 1 = entryFrame m ([.ref h0] : List Value).toArray 1 from by rw [hAr], lg_entry_eq]
  generalize (lg_sl ([.ref h0]) ++ List.replicate (1 - (lg_sl ([.ref h0])).length) Slot.unset).toArray = ls at hl ⊢
  have hl : lv_has ls 1 [(0, .ref h0)] := hl
  refine lv_aload_n hx hb dX7_init_0 rfl (lv_at hl 0 rfl) ?_
  refine W.objInit hx hb hown (hts (.methodLink RX7 1 objectInit) (by decide +kernel)) (hts (.instanceMethod objectInit) (by decide +kernel)) (hts (.code objectInit ⟨#[0xb1]⟩ 1 none) (by decide +kernel)) rfl (by rw [hml]; exact hl.1) rfl dX7_init_1 (Nat.le_of_ble_eq_true rfl) (Nat.le_of_ble_eq_true rfl) ?_
  refine W.eq (g2 := F0 m 4 ls []) rfl ?_
  refine lv_aload_n hx hb dX7_init_4 rfl (lv_at hl 0 rfl) ?_
  refine va_new (ci := 3) (fs := [.null, .null]) (C := RX5) (T := TX5) (N := 2) hx hb hts in_X7_init_X5 tyX5 tyX5_ok hown (hts (.classLink RX7 7 RX5) (by decide +kernel)) (hts (.instantiable RX5 2) (by decide +kernel)) (hts (.initialized RX5) (by decide +kernel)) hK hP hD hS hA rfl (fun j hj => by rcases (show j = 0 ∨ j = 1 by omega) with rfl | rfl <;> rfl) (show 0 + 1 ≤ 15 by decide) (show 0 + 2 ≤ 3095 by decide) dX7_init_5 (fun q1 H hP hD hS => ?_)
  have hP : va_P D vwCl [(h0, .inr (5, [.null, .null, .null, .null, .null, .null])), (q1, .inr (3, [.null, .null]))] H := hP
  have hD : va_D A [(h0, .inr (5, [.null, .null, .null, .null, .null, .null])), (q1, .inr (3, [.null, .null]))] := hD
  refine W.widen (k := 1) (n := 2) (by decide) (by decide) ?_
  refine lv_dup hx hb dX7_init_8 rfl ?_
  have hPc := hP.sub (ws' := [(q1, .inr (3, [.null, .null]))]) [1] rfl
  have hDc := hD.sub (ws' := [(q1, .inr (3, [.null, .null]))]) [1] (by decide) rfl
  have hFc := va_free (wc := [(q1, .inr (3, [.null, .null]))]) hD hS hA [1] rfl
  refine va_callv (va_runI (As := []) (rest := [.ref q1, .ref h0]) ⟨hx, hb, hml, hown, hts⟩ (c_X5_init l D cI cZ q1 H.size) (cwI 0 hts gX7_init_X5_init rfl rfl rfl (hts (.initialized RX5) (by decide +kernel)) (hts (.methodLink RX7 9 yX5_init) (by decide +kernel)) (hts (.instanceMethod yX5_init) (by decide +kernel)) rfl (by decide +kernel) ⟨Nat.le_of_ble_eq_true rfl, Nat.le_of_ble_eq_true rfl⟩) ⟨fun a U g mk q => by obtain ⟨q0, q1, qP, qK, qD⟩ := q; exact ⟨q0, q1, qP, va_K.moved (u := U) (U := U.calling g mk a) (Vm.Alike.refl U.vm) qK, qD⟩, fun U hU hW => ⟨rfl, by rw [hU], by rw [hU]; exact hPc, va_K.moved hW.alike hK, hDc.weaken (fun _ _ _ _ => trivial)⟩⟩ rfl rfl hl.1 rfl (lv_room (Nat.le_of_ble_eq_true rfl)) dX7_init_9 ⟨show 1 + 2 ≤ 15 by decide, show 2 + 2710 ≤ 3095 by decide⟩) hS (fun q _ h => hFc q h) hFc (fun u t H1 locs ht hvm hw hB hz1 hk1 hS => ?_)
  obtain ⟨q2, q3⟩ := u
  obtain ⟨hP1, hD1⟩ := hB
  rw [ht] at hP1
  obtain ⟨hP, hD⟩ := va_join (wr := [(h0, .inr (5, [.null, .null, .null, .null, .null, .null]))]) (w1 := [(q1, .inr (3, [.ref q2, .ref q3])), (q2, .inl (cI, 1355, .inl (fun _ => 0))), (q3, .inl (cI, 1355, .inl (fun _ => 0)))]) hP hD [1] [0] rfl rfl (by decide) (by decide) hk1 hFc hP1 hD1
  generalize H1 = H at hP hS ⊢
  have hP : va_P D vwCl [(h0, .inr (5, [.null, .null, .null, .null, .null, .null])), (q1, .inr (3, [.ref q2, .ref q3])), (q2, .inl (cI, 1355, .inl (fun _ => 0))), (q3, .inl (cI, 1355, .inl (fun _ => 0)))] H := hP
  have hD : va_D A [(h0, .inr (5, [.null, .null, .null, .null, .null, .null])), (q1, .inr (3, [.ref q2, .ref q3])), (q2, .inl (cI, 1355, .inl (fun _ => 0))), (q3, .inl (cI, 1355, .inl (fun _ => 0)))] := hD
  refine W.widen (k := 3) (n := 2712) (by decide) (by decide) ?_
  refine va_putF (D := D) (ci := 5) (v := .ref q1) (ty := .object "ImageChecker$Tables") (C := RX7) (T := TX7) (N := 6) hx hb hts in_X7_init_X7 tyX7 tyX7_ok nmX7 hown hK hP hD hS 0 rfl rfl 0 (by decide) (hts (.fieldLink RX7 10 "ImageChecker" "tables" "LImageChecker$Tables;") (by decide +kernel)) (fun _ h9 => h9) rfl hin rfl (by decide +kernel) rfl rfl (Nat.le_of_ble_eq_true rfl) dX7_init_12 (fun H locs hP hD hS => ?_)
  have hP : va_P D vwCl [(h0, .inr (5, [.ref q1, .null, .null, .null, .null, .null])), (q1, .inr (3, [.ref q2, .ref q3])), (q2, .inl (cI, 1355, .inl (fun _ => 0))), (q3, .inl (cI, 1355, .inl (fun _ => 0)))] H := hP
  have hD : va_D A [(h0, .inr (5, [.ref q1, .null, .null, .null, .null, .null])), (q1, .inr (3, [.ref q2, .ref q3])), (q2, .inl (cI, 1355, .inl (fun _ => 0))), (q3, .inl (cI, 1355, .inl (fun _ => 0)))] := hD
  refine lv_aload_n hx hb dX7_init_15 rfl (lv_at hl 0 rfl) ?_
  refine lv_bipush (v := 25) hx hb dX7_init_16 (by decide) ?_
  refine nk_newZ hx hb (hts (.arrayClass .boolean) (by decide +kernel)) hK 1 rfl hP hD hS hA 25 (by decide) (by decide +kernel) (by decide) (show 3 + 1 ≤ 15 by decide) (show 2712 + 25 ≤ 3095 by decide) dX7_init_18 (fun q4 H hP hD hS => ?_)
  have hP : va_P D vwCl [(h0, .inr (5, [.ref q1, .null, .null, .null, .null, .null])), (q1, .inr (3, [.ref q2, .ref q3])), (q2, .inl (cI, 1355, .inl (fun _ => 0))), (q3, .inl (cI, 1355, .inl (fun _ => 0))), (q4, .inl (cZ, 25, .inl (fun _ => 0)))] H := hP
  have hD : va_D A [(h0, .inr (5, [.ref q1, .null, .null, .null, .null, .null])), (q1, .inr (3, [.ref q2, .ref q3])), (q2, .inl (cI, 1355, .inl (fun _ => 0))), (q3, .inl (cI, 1355, .inl (fun _ => 0))), (q4, .inl (cZ, 25, .inl (fun _ => 0)))] := hD
  refine W.widen (k := 4) (n := 2737) (by decide) (by decide) ?_
  refine va_putF (D := D) (ci := 5) (v := .ref q4) (ty := .array .boolean) (C := RX7) (T := TX7) (N := 6) hx hb hts in_X7_init_X7 tyX7 tyX7_ok nmX7 hown hK hP hD hS 0 rfl rfl 1 (by decide) (hts (.fieldLink RX7 16 "ImageChecker" "held" "[Z") (by decide +kernel)) (fun _ h9 => h9) rfl hin rfl (by decide +kernel) rfl rfl (Nat.le_of_ble_eq_true rfl) dX7_init_20 (fun H locs hP hD hS => ?_)
  have hP : va_P D vwCl [(h0, .inr (5, [.ref q1, .ref q4, .null, .null, .null, .null])), (q1, .inr (3, [.ref q2, .ref q3])), (q2, .inl (cI, 1355, .inl (fun _ => 0))), (q3, .inl (cI, 1355, .inl (fun _ => 0))), (q4, .inl (cZ, 25, .inl (fun _ => 0)))] H := hP
  have hD : va_D A [(h0, .inr (5, [.ref q1, .ref q4, .null, .null, .null, .null])), (q1, .inr (3, [.ref q2, .ref q3])), (q2, .inl (cI, 1355, .inl (fun _ => 0))), (q3, .inl (cI, 1355, .inl (fun _ => 0))), (q4, .inl (cZ, 25, .inl (fun _ => 0)))] := hD
  refine lv_aload_n hx hb dX7_init_23 rfl (lv_at hl 0 rfl) ?_
  refine va_new (ci := 2) (fs := [.null]) (C := RX4) (T := TX4) (N := 1) hx hb hts in_X7_init_X4 tyX4 tyX4_ok hown (hts (.classLink RX7 20 RX4) (by decide +kernel)) (hts (.instantiable RX4 1) (by decide +kernel)) (hts (.initialized RX4) (by decide +kernel)) hK hP hD hS hA rfl (fun j hj => by rcases (show j = 0 by omega) with rfl <;> rfl) (show 4 + 1 ≤ 15 by decide) (show 2737 + 1 ≤ 3095 by decide) dX7_init_24 (fun q5 H hP hD hS => ?_)
  have hP : va_P D vwCl [(h0, .inr (5, [.ref q1, .ref q4, .null, .null, .null, .null])), (q1, .inr (3, [.ref q2, .ref q3])), (q2, .inl (cI, 1355, .inl (fun _ => 0))), (q3, .inl (cI, 1355, .inl (fun _ => 0))), (q4, .inl (cZ, 25, .inl (fun _ => 0))), (q5, .inr (2, [.null]))] H := hP
  have hD : va_D A [(h0, .inr (5, [.ref q1, .ref q4, .null, .null, .null, .null])), (q1, .inr (3, [.ref q2, .ref q3])), (q2, .inl (cI, 1355, .inl (fun _ => 0))), (q3, .inl (cI, 1355, .inl (fun _ => 0))), (q4, .inl (cZ, 25, .inl (fun _ => 0))), (q5, .inr (2, [.null]))] := hD
  refine W.widen (k := 5) (n := 2738) (by decide) (by decide) ?_
  refine lv_dup hx hb dX7_init_27 rfl ?_
  have hPc := hP.sub (ws' := [(q5, .inr (2, [.null]))]) [5] rfl
  have hDc := hD.sub (ws' := [(q5, .inr (2, [.null]))]) [5] (by decide) rfl
  have hFc := va_free (wc := [(q5, .inr (2, [.null]))]) hD hS hA [5] rfl
  refine va_callv (va_runI (As := []) (rest := [.ref q5, .ref h0]) ⟨hx, hb, hml, hown, hts⟩ (c_X4_init l D cI cZ q5 H.size) (cwI 0 hts gX7_init_X4_init rfl rfl rfl (hts (.initialized RX4) (by decide +kernel)) (hts (.methodLink RX7 22 yX4_init) (by decide +kernel)) (hts (.instanceMethod yX4_init) (by decide +kernel)) rfl (by decide +kernel) ⟨Nat.le_of_ble_eq_true rfl, Nat.le_of_ble_eq_true rfl⟩) ⟨fun a U g mk q => by obtain ⟨q0, q1, qP, qK, qD⟩ := q; exact ⟨q0, q1, qP, va_K.moved (u := U) (U := U.calling g mk a) (Vm.Alike.refl U.vm) qK, qD⟩, fun U hU hW => ⟨rfl, by rw [hU], by rw [hU]; exact hPc, va_K.moved hW.alike hK, hDc.weaken (fun _ _ _ _ => trivial)⟩⟩ rfl rfl hl.1 rfl (lv_room (Nat.le_of_ble_eq_true rfl)) dX7_init_28 ⟨show 5 + 1 ≤ 15 by decide, show 2738 + 201 ≤ 3095 by decide⟩) hS (fun q _ h => hFc q h) hFc (fun u t H1 locs ht hvm hw hB hz1 hk1 hS => ?_)
  obtain ⟨q6, rfl⟩ : ∃ z, z = u := ⟨_, rfl⟩
  obtain ⟨hP1, hD1⟩ := hB
  rw [ht] at hP1
  obtain ⟨hP, hD⟩ := va_join (wr := [(h0, .inr (5, [.ref q1, .ref q4, .null, .null, .null, .null])), (q1, .inr (3, [.ref q2, .ref q3])), (q2, .inl (cI, 1355, .inl (fun _ => 0))), (q3, .inl (cI, 1355, .inl (fun _ => 0))), (q4, .inl (cZ, 25, .inl (fun _ => 0)))]) (w1 := [(q5, .inr (2, [.ref q6])), (q6, .inl (cZ, 201, .inl (fun _ => 0)))]) hP hD [5] [0, 1, 2, 3, 4] rfl rfl (by decide) (by decide) hk1 hFc hP1 hD1
  generalize H1 = H at hP hS ⊢
  have hP : va_P D vwCl [(h0, .inr (5, [.ref q1, .ref q4, .null, .null, .null, .null])), (q1, .inr (3, [.ref q2, .ref q3])), (q2, .inl (cI, 1355, .inl (fun _ => 0))), (q3, .inl (cI, 1355, .inl (fun _ => 0))), (q4, .inl (cZ, 25, .inl (fun _ => 0))), (q5, .inr (2, [.ref q6])), (q6, .inl (cZ, 201, .inl (fun _ => 0)))] H := hP
  have hD : va_D A [(h0, .inr (5, [.ref q1, .ref q4, .null, .null, .null, .null])), (q1, .inr (3, [.ref q2, .ref q3])), (q2, .inl (cI, 1355, .inl (fun _ => 0))), (q3, .inl (cI, 1355, .inl (fun _ => 0))), (q4, .inl (cZ, 25, .inl (fun _ => 0))), (q5, .inr (2, [.ref q6])), (q6, .inl (cZ, 201, .inl (fun _ => 0)))] := hD
  refine W.widen (k := 6) (n := 2939) (by decide) (by decide) ?_
  refine va_putF (D := D) (ci := 5) (v := .ref q5) (ty := .object "ImageChecker$RecordPass") (C := RX7) (T := TX7) (N := 6) hx hb hts in_X7_init_X7 tyX7 tyX7_ok nmX7 hown hK hP hD hS 0 rfl rfl 2 (by decide) (hts (.fieldLink RX7 23 "ImageChecker" "records" "LImageChecker$RecordPass;") (by decide +kernel)) (fun _ h9 => h9) rfl hin rfl (by decide +kernel) rfl rfl (Nat.le_of_ble_eq_true rfl) dX7_init_31 (fun H locs hP hD hS => ?_)
  have hP : va_P D vwCl [(h0, .inr (5, [.ref q1, .ref q4, .ref q5, .null, .null, .null])), (q1, .inr (3, [.ref q2, .ref q3])), (q2, .inl (cI, 1355, .inl (fun _ => 0))), (q3, .inl (cI, 1355, .inl (fun _ => 0))), (q4, .inl (cZ, 25, .inl (fun _ => 0))), (q5, .inr (2, [.ref q6])), (q6, .inl (cZ, 201, .inl (fun _ => 0)))] H := hP
  have hD : va_D A [(h0, .inr (5, [.ref q1, .ref q4, .ref q5, .null, .null, .null])), (q1, .inr (3, [.ref q2, .ref q3])), (q2, .inl (cI, 1355, .inl (fun _ => 0))), (q3, .inl (cI, 1355, .inl (fun _ => 0))), (q4, .inl (cZ, 25, .inl (fun _ => 0))), (q5, .inr (2, [.ref q6])), (q6, .inl (cZ, 201, .inl (fun _ => 0)))] := hD
  refine lv_aload_n hx hb dX7_init_34 rfl (lv_at hl 0 rfl) ?_
  refine va_new (ci := 0) (fs := [.null]) (C := RX1) (T := TX1) (N := 1) hx hb hts in_X7_init_X1 tyX1 tyX1_ok hown (hts (.classLink RX7 27 RX1) (by decide +kernel)) (hts (.instantiable RX1 1) (by decide +kernel)) (hts (.initialized RX1) (by decide +kernel)) hK hP hD hS hA rfl (fun j hj => by rcases (show j = 0 by omega) with rfl <;> rfl) (show 6 + 1 ≤ 15 by decide) (show 2939 + 1 ≤ 3095 by decide) dX7_init_35 (fun q7 H hP hD hS => ?_)
  have hP : va_P D vwCl [(h0, .inr (5, [.ref q1, .ref q4, .ref q5, .null, .null, .null])), (q1, .inr (3, [.ref q2, .ref q3])), (q2, .inl (cI, 1355, .inl (fun _ => 0))), (q3, .inl (cI, 1355, .inl (fun _ => 0))), (q4, .inl (cZ, 25, .inl (fun _ => 0))), (q5, .inr (2, [.ref q6])), (q6, .inl (cZ, 201, .inl (fun _ => 0))), (q7, .inr (0, [.null]))] H := hP
  have hD : va_D A [(h0, .inr (5, [.ref q1, .ref q4, .ref q5, .null, .null, .null])), (q1, .inr (3, [.ref q2, .ref q3])), (q2, .inl (cI, 1355, .inl (fun _ => 0))), (q3, .inl (cI, 1355, .inl (fun _ => 0))), (q4, .inl (cZ, 25, .inl (fun _ => 0))), (q5, .inr (2, [.ref q6])), (q6, .inl (cZ, 201, .inl (fun _ => 0))), (q7, .inr (0, [.null]))] := hD
  refine W.widen (k := 7) (n := 2940) (by decide) (by decide) ?_
  refine lv_dup hx hb dX7_init_38 rfl ?_
  have hPc := hP.sub (ws' := [(q7, .inr (0, [.null]))]) [7] rfl
  have hDc := hD.sub (ws' := [(q7, .inr (0, [.null]))]) [7] (by decide) rfl
  have hFc := va_free (wc := [(q7, .inr (0, [.null]))]) hD hS hA [7] rfl
  refine va_callv (va_runI (As := []) (rest := [.ref q7, .ref h0]) ⟨hx, hb, hml, hown, hts⟩ (c_X1_init l D cI cZ q7 H.size) (cwI 0 hts gX7_init_X1_init rfl rfl rfl (hts (.initialized RX1) (by decide +kernel)) (hts (.methodLink RX7 29 yX1_init) (by decide +kernel)) (hts (.instanceMethod yX1_init) (by decide +kernel)) rfl (by decide +kernel) ⟨Nat.le_of_ble_eq_true rfl, Nat.le_of_ble_eq_true rfl⟩) ⟨fun a U g mk q => by obtain ⟨q0, q1, qP, qK, qD⟩ := q; exact ⟨q0, q1, qP, va_K.moved (u := U) (U := U.calling g mk a) (Vm.Alike.refl U.vm) qK, qD⟩, fun U hU hW => ⟨rfl, by rw [hU], by rw [hU]; exact hPc, va_K.moved hW.alike hK, hDc.weaken (fun _ _ _ _ => trivial)⟩⟩ rfl rfl hl.1 rfl (lv_room (Nat.le_of_ble_eq_true rfl)) dX7_init_39 ⟨show 7 + 1 ≤ 15 by decide, show 2940 + 25 ≤ 3095 by decide⟩) hS (fun q _ h => hFc q h) hFc (fun u t H1 locs ht hvm hw hB hz1 hk1 hS => ?_)
  obtain ⟨q8, rfl⟩ : ∃ z, z = u := ⟨_, rfl⟩
  obtain ⟨hP1, hD1⟩ := hB
  rw [ht] at hP1
  obtain ⟨hP, hD⟩ := va_join (wr := [(h0, .inr (5, [.ref q1, .ref q4, .ref q5, .null, .null, .null])), (q1, .inr (3, [.ref q2, .ref q3])), (q2, .inl (cI, 1355, .inl (fun _ => 0))), (q3, .inl (cI, 1355, .inl (fun _ => 0))), (q4, .inl (cZ, 25, .inl (fun _ => 0))), (q5, .inr (2, [.ref q6])), (q6, .inl (cZ, 201, .inl (fun _ => 0)))]) (w1 := [(q7, .inr (0, [.ref q8])), (q8, .inl (cZ, 25, .inl (fun _ => 0)))]) hP hD [7] [0, 1, 2, 3, 4, 5, 6] rfl rfl (by decide) (by decide) hk1 hFc hP1 hD1
  generalize H1 = H at hP hS ⊢
  have hP : va_P D vwCl [(h0, .inr (5, [.ref q1, .ref q4, .ref q5, .null, .null, .null])), (q1, .inr (3, [.ref q2, .ref q3])), (q2, .inl (cI, 1355, .inl (fun _ => 0))), (q3, .inl (cI, 1355, .inl (fun _ => 0))), (q4, .inl (cZ, 25, .inl (fun _ => 0))), (q5, .inr (2, [.ref q6])), (q6, .inl (cZ, 201, .inl (fun _ => 0))), (q7, .inr (0, [.ref q8])), (q8, .inl (cZ, 25, .inl (fun _ => 0)))] H := hP
  have hD : va_D A [(h0, .inr (5, [.ref q1, .ref q4, .ref q5, .null, .null, .null])), (q1, .inr (3, [.ref q2, .ref q3])), (q2, .inl (cI, 1355, .inl (fun _ => 0))), (q3, .inl (cI, 1355, .inl (fun _ => 0))), (q4, .inl (cZ, 25, .inl (fun _ => 0))), (q5, .inr (2, [.ref q6])), (q6, .inl (cZ, 201, .inl (fun _ => 0))), (q7, .inr (0, [.ref q8])), (q8, .inl (cZ, 25, .inl (fun _ => 0)))] := hD
  refine W.widen (k := 8) (n := 2965) (by decide) (by decide) ?_
  refine va_putF (D := D) (ci := 5) (v := .ref q7) (ty := .object "ImageChecker$FolderPass") (C := RX7) (T := TX7) (N := 6) hx hb hts in_X7_init_X7 tyX7 tyX7_ok nmX7 hown hK hP hD hS 0 rfl rfl 3 (by decide) (hts (.fieldLink RX7 30 "ImageChecker" "folders" "LImageChecker$FolderPass;") (by decide +kernel)) (fun _ h9 => h9) rfl hin rfl (by decide +kernel) rfl rfl (Nat.le_of_ble_eq_true rfl) dX7_init_42 (fun H locs hP hD hS => ?_)
  have hP : va_P D vwCl [(h0, .inr (5, [.ref q1, .ref q4, .ref q5, .ref q7, .null, .null])), (q1, .inr (3, [.ref q2, .ref q3])), (q2, .inl (cI, 1355, .inl (fun _ => 0))), (q3, .inl (cI, 1355, .inl (fun _ => 0))), (q4, .inl (cZ, 25, .inl (fun _ => 0))), (q5, .inr (2, [.ref q6])), (q6, .inl (cZ, 201, .inl (fun _ => 0))), (q7, .inr (0, [.ref q8])), (q8, .inl (cZ, 25, .inl (fun _ => 0)))] H := hP
  have hD : va_D A [(h0, .inr (5, [.ref q1, .ref q4, .ref q5, .ref q7, .null, .null])), (q1, .inr (3, [.ref q2, .ref q3])), (q2, .inl (cI, 1355, .inl (fun _ => 0))), (q3, .inl (cI, 1355, .inl (fun _ => 0))), (q4, .inl (cZ, 25, .inl (fun _ => 0))), (q5, .inr (2, [.ref q6])), (q6, .inl (cZ, 201, .inl (fun _ => 0))), (q7, .inr (0, [.ref q8])), (q8, .inl (cZ, 25, .inl (fun _ => 0)))] := hD
  refine lv_aload_n hx hb dX7_init_45 rfl (lv_at hl 0 rfl) ?_
  refine va_new (ci := 1) (fs := [.null, .null, .int 0]) (C := RX2) (T := TX2) (N := 3) hx hb hts in_X7_init_X2 tyX2 tyX2_ok hown (hts (.classLink RX7 34 RX2) (by decide +kernel)) (hts (.instantiable RX2 3) (by decide +kernel)) (hts (.initialized RX2) (by decide +kernel)) hK hP hD hS hA rfl (fun j hj => by rcases (show j = 0 ∨ j = 1 ∨ j = 2 by omega) with rfl | rfl | rfl <;> rfl) (show 8 + 1 ≤ 15 by decide) (show 2965 + 3 ≤ 3095 by decide) dX7_init_46 (fun q9 H hP hD hS => ?_)
  have hP : va_P D vwCl [(h0, .inr (5, [.ref q1, .ref q4, .ref q5, .ref q7, .null, .null])), (q1, .inr (3, [.ref q2, .ref q3])), (q2, .inl (cI, 1355, .inl (fun _ => 0))), (q3, .inl (cI, 1355, .inl (fun _ => 0))), (q4, .inl (cZ, 25, .inl (fun _ => 0))), (q5, .inr (2, [.ref q6])), (q6, .inl (cZ, 201, .inl (fun _ => 0))), (q7, .inr (0, [.ref q8])), (q8, .inl (cZ, 25, .inl (fun _ => 0))), (q9, .inr (1, [.null, .null, .int 0]))] H := hP
  have hD : va_D A [(h0, .inr (5, [.ref q1, .ref q4, .ref q5, .ref q7, .null, .null])), (q1, .inr (3, [.ref q2, .ref q3])), (q2, .inl (cI, 1355, .inl (fun _ => 0))), (q3, .inl (cI, 1355, .inl (fun _ => 0))), (q4, .inl (cZ, 25, .inl (fun _ => 0))), (q5, .inr (2, [.ref q6])), (q6, .inl (cZ, 201, .inl (fun _ => 0))), (q7, .inr (0, [.ref q8])), (q8, .inl (cZ, 25, .inl (fun _ => 0))), (q9, .inr (1, [.null, .null, .int 0]))] := hD
  refine W.widen (k := 9) (n := 2968) (by decide) (by decide) ?_
  refine lv_dup hx hb dX7_init_49 rfl ?_
  have hPc := hP.sub (ws' := [(q9, .inr (1, [.null, .null, .int 0]))]) [9] rfl
  have hDc := hD.sub (ws' := [(q9, .inr (1, [.null, .null, .int 0]))]) [9] (by decide) rfl
  have hFc := va_free (wc := [(q9, .inr (1, [.null, .null, .int 0]))]) hD hS hA [9] rfl
  refine va_callv (va_runI (As := []) (rest := [.ref q9, .ref h0]) ⟨hx, hb, hml, hown, hts⟩ (c_X2_init l D cI cZ q9 H.size) (cwI 0 hts gX7_init_X2_init rfl rfl rfl (hts (.initialized RX2) (by decide +kernel)) (hts (.methodLink RX7 36 yX2_init) (by decide +kernel)) (hts (.instanceMethod yX2_init) (by decide +kernel)) rfl (by decide +kernel) ⟨Nat.le_of_ble_eq_true rfl, Nat.le_of_ble_eq_true rfl⟩) ⟨fun a U g mk q => by obtain ⟨q0, q1, qP, qK, qD⟩ := q; exact ⟨q0, q1, qP, va_K.moved (u := U) (U := U.calling g mk a) (Vm.Alike.refl U.vm) qK, qD⟩, fun U hU hW => ⟨rfl, by rw [hU], by rw [hU]; exact hPc, va_K.moved hW.alike hK, hDc.weaken (fun _ _ _ _ => trivial)⟩⟩ rfl rfl hl.1 rfl (lv_room (Nat.le_of_ble_eq_true rfl)) dX7_init_50 ⟨show 9 + 2 ≤ 15 by decide, show 2968 + 49 ≤ 3095 by decide⟩) hS (fun q _ h => hFc q h) hFc (fun u t H1 locs ht hvm hw hB hz1 hk1 hS => ?_)
  obtain ⟨q10, q11⟩ := u
  obtain ⟨hP1, hD1⟩ := hB
  rw [ht] at hP1
  obtain ⟨hP, hD⟩ := va_join (wr := [(h0, .inr (5, [.ref q1, .ref q4, .ref q5, .ref q7, .null, .null])), (q1, .inr (3, [.ref q2, .ref q3])), (q2, .inl (cI, 1355, .inl (fun _ => 0))), (q3, .inl (cI, 1355, .inl (fun _ => 0))), (q4, .inl (cZ, 25, .inl (fun _ => 0))), (q5, .inr (2, [.ref q6])), (q6, .inl (cZ, 201, .inl (fun _ => 0))), (q7, .inr (0, [.ref q8])), (q8, .inl (cZ, 25, .inl (fun _ => 0)))]) (w1 := [(q9, .inr (1, [.ref q10, .ref q11, .int 0])), (q10, .inl (cZ, 25, .inl (fun _ => 0))), (q11, .inl (cI, 24, .inl (fun _ => 0)))]) hP hD [9] [0, 1, 2, 3, 4, 5, 6, 7, 8] rfl rfl (by decide) (by decide) hk1 hFc hP1 hD1
  generalize H1 = H at hP hS ⊢
  have hP : va_P D vwCl [(h0, .inr (5, [.ref q1, .ref q4, .ref q5, .ref q7, .null, .null])), (q1, .inr (3, [.ref q2, .ref q3])), (q2, .inl (cI, 1355, .inl (fun _ => 0))), (q3, .inl (cI, 1355, .inl (fun _ => 0))), (q4, .inl (cZ, 25, .inl (fun _ => 0))), (q5, .inr (2, [.ref q6])), (q6, .inl (cZ, 201, .inl (fun _ => 0))), (q7, .inr (0, [.ref q8])), (q8, .inl (cZ, 25, .inl (fun _ => 0))), (q9, .inr (1, [.ref q10, .ref q11, .int 0])), (q10, .inl (cZ, 25, .inl (fun _ => 0))), (q11, .inl (cI, 24, .inl (fun _ => 0)))] H := hP
  have hD : va_D A [(h0, .inr (5, [.ref q1, .ref q4, .ref q5, .ref q7, .null, .null])), (q1, .inr (3, [.ref q2, .ref q3])), (q2, .inl (cI, 1355, .inl (fun _ => 0))), (q3, .inl (cI, 1355, .inl (fun _ => 0))), (q4, .inl (cZ, 25, .inl (fun _ => 0))), (q5, .inr (2, [.ref q6])), (q6, .inl (cZ, 201, .inl (fun _ => 0))), (q7, .inr (0, [.ref q8])), (q8, .inl (cZ, 25, .inl (fun _ => 0))), (q9, .inr (1, [.ref q10, .ref q11, .int 0])), (q10, .inl (cZ, 25, .inl (fun _ => 0))), (q11, .inl (cI, 24, .inl (fun _ => 0)))] := hD
  refine W.widen (k := 11) (n := 3017) (by decide) (by decide) ?_
  refine va_putF (D := D) (ci := 5) (v := .ref q9) (ty := .object "ImageChecker$HangingPass") (C := RX7) (T := TX7) (N := 6) hx hb hts in_X7_init_X7 tyX7 tyX7_ok nmX7 hown hK hP hD hS 0 rfl rfl 4 (by decide) (hts (.fieldLink RX7 37 "ImageChecker" "hanging" "LImageChecker$HangingPass;") (by decide +kernel)) (fun _ h9 => h9) rfl hin rfl (by decide +kernel) rfl rfl (Nat.le_of_ble_eq_true rfl) dX7_init_53 (fun H locs hP hD hS => ?_)
  have hP : va_P D vwCl [(h0, .inr (5, [.ref q1, .ref q4, .ref q5, .ref q7, .ref q9, .null])), (q1, .inr (3, [.ref q2, .ref q3])), (q2, .inl (cI, 1355, .inl (fun _ => 0))), (q3, .inl (cI, 1355, .inl (fun _ => 0))), (q4, .inl (cZ, 25, .inl (fun _ => 0))), (q5, .inr (2, [.ref q6])), (q6, .inl (cZ, 201, .inl (fun _ => 0))), (q7, .inr (0, [.ref q8])), (q8, .inl (cZ, 25, .inl (fun _ => 0))), (q9, .inr (1, [.ref q10, .ref q11, .int 0])), (q10, .inl (cZ, 25, .inl (fun _ => 0))), (q11, .inl (cI, 24, .inl (fun _ => 0)))] H := hP
  have hD : va_D A [(h0, .inr (5, [.ref q1, .ref q4, .ref q5, .ref q7, .ref q9, .null])), (q1, .inr (3, [.ref q2, .ref q3])), (q2, .inl (cI, 1355, .inl (fun _ => 0))), (q3, .inl (cI, 1355, .inl (fun _ => 0))), (q4, .inl (cZ, 25, .inl (fun _ => 0))), (q5, .inr (2, [.ref q6])), (q6, .inl (cZ, 201, .inl (fun _ => 0))), (q7, .inr (0, [.ref q8])), (q8, .inl (cZ, 25, .inl (fun _ => 0))), (q9, .inr (1, [.ref q10, .ref q11, .int 0])), (q10, .inl (cZ, 25, .inl (fun _ => 0))), (q11, .inl (cI, 24, .inl (fun _ => 0)))] := hD
  refine lv_aload_n hx hb dX7_init_56 rfl (lv_at hl 0 rfl) ?_
  refine va_new (ci := 4) (fs := [.null, .null, .null, .int 0]) (C := RX6) (T := TX6) (N := 4) hx hb hts in_X7_init_X6 tyX6 tyX6_ok hown (hts (.classLink RX7 41 RX6) (by decide +kernel)) (hts (.instantiable RX6 4) (by decide +kernel)) (hts (.initialized RX6) (by decide +kernel)) hK hP hD hS hA rfl (fun j hj => by rcases (show j = 0 ∨ j = 1 ∨ j = 2 ∨ j = 3 by omega) with rfl | rfl | rfl | rfl <;> rfl) (show 11 + 1 ≤ 15 by decide) (show 3017 + 4 ≤ 3095 by decide) dX7_init_57 (fun q12 H hP hD hS => ?_)
  have hP : va_P D vwCl [(h0, .inr (5, [.ref q1, .ref q4, .ref q5, .ref q7, .ref q9, .null])), (q1, .inr (3, [.ref q2, .ref q3])), (q2, .inl (cI, 1355, .inl (fun _ => 0))), (q3, .inl (cI, 1355, .inl (fun _ => 0))), (q4, .inl (cZ, 25, .inl (fun _ => 0))), (q5, .inr (2, [.ref q6])), (q6, .inl (cZ, 201, .inl (fun _ => 0))), (q7, .inr (0, [.ref q8])), (q8, .inl (cZ, 25, .inl (fun _ => 0))), (q9, .inr (1, [.ref q10, .ref q11, .int 0])), (q10, .inl (cZ, 25, .inl (fun _ => 0))), (q11, .inl (cI, 24, .inl (fun _ => 0))), (q12, .inr (4, [.null, .null, .null, .int 0]))] H := hP
  have hD : va_D A [(h0, .inr (5, [.ref q1, .ref q4, .ref q5, .ref q7, .ref q9, .null])), (q1, .inr (3, [.ref q2, .ref q3])), (q2, .inl (cI, 1355, .inl (fun _ => 0))), (q3, .inl (cI, 1355, .inl (fun _ => 0))), (q4, .inl (cZ, 25, .inl (fun _ => 0))), (q5, .inr (2, [.ref q6])), (q6, .inl (cZ, 201, .inl (fun _ => 0))), (q7, .inr (0, [.ref q8])), (q8, .inl (cZ, 25, .inl (fun _ => 0))), (q9, .inr (1, [.ref q10, .ref q11, .int 0])), (q10, .inl (cZ, 25, .inl (fun _ => 0))), (q11, .inl (cI, 24, .inl (fun _ => 0))), (q12, .inr (4, [.null, .null, .null, .int 0]))] := hD
  refine W.widen (k := 12) (n := 3021) (by decide) (by decide) ?_
  refine lv_dup hx hb dX7_init_60 rfl ?_
  have hPc := hP.sub (ws' := [(q12, .inr (4, [.null, .null, .null, .int 0]))]) [12] rfl
  have hDc := hD.sub (ws' := [(q12, .inr (4, [.null, .null, .null, .int 0]))]) [12] (by decide) rfl
  have hFc := va_free (wc := [(q12, .inr (4, [.null, .null, .null, .int 0]))]) hD hS hA [12] rfl
  refine va_callv (va_runI (As := []) (rest := [.ref q12, .ref h0]) ⟨hx, hb, hml, hown, hts⟩ (c_X6_init l D cI cZ q12 H.size) (cwI 0 hts gX7_init_X6_init rfl rfl rfl (hts (.initialized RX6) (by decide +kernel)) (hts (.methodLink RX7 43 yX6_init) (by decide +kernel)) (hts (.instanceMethod yX6_init) (by decide +kernel)) rfl (by decide +kernel) ⟨Nat.le_of_ble_eq_true rfl, Nat.le_of_ble_eq_true rfl⟩) ⟨fun a U g mk q => by obtain ⟨q0, q1, qP, qK, qD⟩ := q; exact ⟨q0, q1, qP, va_K.moved (u := U) (U := U.calling g mk a) (Vm.Alike.refl U.vm) qK, qD⟩, fun U hU hW => ⟨rfl, by rw [hU], by rw [hU]; exact hPc, va_K.moved hW.alike hK, hDc.weaken (fun _ _ _ _ => trivial)⟩⟩ rfl rfl hl.1 rfl (lv_room (Nat.le_of_ble_eq_true rfl)) dX7_init_61 ⟨show 12 + 3 ≤ 15 by decide, show 3021 + 74 ≤ 3095 by decide⟩) hS (fun q _ h => hFc q h) hFc (fun u t H1 locs ht hvm hw hB hz1 hk1 hS => ?_)
  obtain ⟨q13, q14, q15⟩ := u
  obtain ⟨hP1, hD1⟩ := hB
  rw [ht] at hP1
  obtain ⟨hP, hD⟩ := va_join (wr := [(h0, .inr (5, [.ref q1, .ref q4, .ref q5, .ref q7, .ref q9, .null])), (q1, .inr (3, [.ref q2, .ref q3])), (q2, .inl (cI, 1355, .inl (fun _ => 0))), (q3, .inl (cI, 1355, .inl (fun _ => 0))), (q4, .inl (cZ, 25, .inl (fun _ => 0))), (q5, .inr (2, [.ref q6])), (q6, .inl (cZ, 201, .inl (fun _ => 0))), (q7, .inr (0, [.ref q8])), (q8, .inl (cZ, 25, .inl (fun _ => 0))), (q9, .inr (1, [.ref q10, .ref q11, .int 0])), (q10, .inl (cZ, 25, .inl (fun _ => 0))), (q11, .inl (cI, 24, .inl (fun _ => 0)))]) (w1 := [(q12, .inr (4, [.ref q13, .ref q14, .ref q15, .int 0])), (q13, .inl (cZ, 25, .inl (fun _ => 0))), (q14, .inl (cZ, 25, .inl (fun _ => 0))), (q15, .inl (cI, 24, .inl (fun _ => 0)))]) hP hD [12] [0, 1, 2, 3, 4, 5, 6, 7, 8, 9, 10, 11] rfl rfl (by decide) (by decide) hk1 hFc hP1 hD1
  generalize H1 = H at hP hS ⊢
  have hP : va_P D vwCl [(h0, .inr (5, [.ref q1, .ref q4, .ref q5, .ref q7, .ref q9, .null])), (q1, .inr (3, [.ref q2, .ref q3])), (q2, .inl (cI, 1355, .inl (fun _ => 0))), (q3, .inl (cI, 1355, .inl (fun _ => 0))), (q4, .inl (cZ, 25, .inl (fun _ => 0))), (q5, .inr (2, [.ref q6])), (q6, .inl (cZ, 201, .inl (fun _ => 0))), (q7, .inr (0, [.ref q8])), (q8, .inl (cZ, 25, .inl (fun _ => 0))), (q9, .inr (1, [.ref q10, .ref q11, .int 0])), (q10, .inl (cZ, 25, .inl (fun _ => 0))), (q11, .inl (cI, 24, .inl (fun _ => 0))), (q12, .inr (4, [.ref q13, .ref q14, .ref q15, .int 0])), (q13, .inl (cZ, 25, .inl (fun _ => 0))), (q14, .inl (cZ, 25, .inl (fun _ => 0))), (q15, .inl (cI, 24, .inl (fun _ => 0)))] H := hP
  have hD : va_D A [(h0, .inr (5, [.ref q1, .ref q4, .ref q5, .ref q7, .ref q9, .null])), (q1, .inr (3, [.ref q2, .ref q3])), (q2, .inl (cI, 1355, .inl (fun _ => 0))), (q3, .inl (cI, 1355, .inl (fun _ => 0))), (q4, .inl (cZ, 25, .inl (fun _ => 0))), (q5, .inr (2, [.ref q6])), (q6, .inl (cZ, 201, .inl (fun _ => 0))), (q7, .inr (0, [.ref q8])), (q8, .inl (cZ, 25, .inl (fun _ => 0))), (q9, .inr (1, [.ref q10, .ref q11, .int 0])), (q10, .inl (cZ, 25, .inl (fun _ => 0))), (q11, .inl (cI, 24, .inl (fun _ => 0))), (q12, .inr (4, [.ref q13, .ref q14, .ref q15, .int 0])), (q13, .inl (cZ, 25, .inl (fun _ => 0))), (q14, .inl (cZ, 25, .inl (fun _ => 0))), (q15, .inl (cI, 24, .inl (fun _ => 0)))] := hD
  refine W.widen (k := 15) (n := 3095) (by decide) (by decide) ?_
  refine va_putF (D := D) (ci := 5) (v := .ref q12) (ty := .object "ImageChecker$WaitingList") (C := RX7) (T := TX7) (N := 6) hx hb hts in_X7_init_X7 tyX7 tyX7_ok nmX7 hown hK hP hD hS 0 rfl rfl 5 (by decide) (hts (.fieldLink RX7 44 "ImageChecker" "waiting" "LImageChecker$WaitingList;") (by decide +kernel)) (fun _ h9 => h9) rfl hin rfl (by decide +kernel) rfl rfl (Nat.le_of_ble_eq_true rfl) dX7_init_64 (fun H locs hP hD hS => ?_)
  have hP : va_P D vwCl [(h0, .inr (5, [.ref q1, .ref q4, .ref q5, .ref q7, .ref q9, .ref q12])), (q1, .inr (3, [.ref q2, .ref q3])), (q2, .inl (cI, 1355, .inl (fun _ => 0))), (q3, .inl (cI, 1355, .inl (fun _ => 0))), (q4, .inl (cZ, 25, .inl (fun _ => 0))), (q5, .inr (2, [.ref q6])), (q6, .inl (cZ, 201, .inl (fun _ => 0))), (q7, .inr (0, [.ref q8])), (q8, .inl (cZ, 25, .inl (fun _ => 0))), (q9, .inr (1, [.ref q10, .ref q11, .int 0])), (q10, .inl (cZ, 25, .inl (fun _ => 0))), (q11, .inl (cI, 24, .inl (fun _ => 0))), (q12, .inr (4, [.ref q13, .ref q14, .ref q15, .int 0])), (q13, .inl (cZ, 25, .inl (fun _ => 0))), (q14, .inl (cZ, 25, .inl (fun _ => 0))), (q15, .inl (cI, 24, .inl (fun _ => 0)))] H := hP
  have hD : va_D A [(h0, .inr (5, [.ref q1, .ref q4, .ref q5, .ref q7, .ref q9, .ref q12])), (q1, .inr (3, [.ref q2, .ref q3])), (q2, .inl (cI, 1355, .inl (fun _ => 0))), (q3, .inl (cI, 1355, .inl (fun _ => 0))), (q4, .inl (cZ, 25, .inl (fun _ => 0))), (q5, .inr (2, [.ref q6])), (q6, .inl (cZ, 201, .inl (fun _ => 0))), (q7, .inr (0, [.ref q8])), (q8, .inl (cZ, 25, .inl (fun _ => 0))), (q9, .inr (1, [.ref q10, .ref q11, .int 0])), (q10, .inl (cZ, 25, .inl (fun _ => 0))), (q11, .inl (cI, 24, .inl (fun _ => 0))), (q12, .inr (4, [.ref q13, .ref q14, .ref q15, .int 0])), (q13, .inl (cZ, 25, .inl (fun _ => 0))), (q14, .inl (cZ, 25, .inl (fun _ => 0))), (q15, .inl (cI, 24, .inl (fun _ => 0)))] := hD
  refine lv_aload_n hx hb dX7_init_67 rfl (lv_at hl 0 rfl) ?_
  obtain ⟨a, ea⟩ : ∃ a : Nat → Nat, a = fun k => [h0, q1, q2, q3, q4, q5, q6, q7, q8, q9, q10, q11, q12, q13, q14, q15].getD k 0 := ⟨_, rfl⟩
  have e0 : a 0 = h0 := by rw [ea]; rfl
  have hP : va_P D vwCl (ck_W cI cZ a ck_0) H := by rw [ea]; exact hP.sub [0, 1, 2, 3, 4, 5, 6, 7, 8, 9, 10, 11, 12, 13, 14, 15] rfl
  have hD : va_D A (ck_W cI cZ a ck_0) := by rw [ea]; exact hD.sub [0, 1, 2, 3, 4, 5, 6, 7, 8, 9, 10, 11, 12, 13, 14, 15] (by decide) rfl
  have hl : lv_has ls 1 [(0, .ref (a 0))] := by rw [e0]; exact hl
  try rw [← e0]
  refine va_get (D := D) (ci := 5) (v := .ref (a 1)) (C := RX7) (T := TX7) (N := 6) hx hb hts in_X7_init_X7 hown hK hP 0 rfl rfl 0 (by decide) (hts (.fieldLink RX7 10 "ImageChecker" "tables" "LImageChecker$Tables;") (by decide +kernel)) (fun _ h9 => h9) rfl dX7_init_68 ?_
  refine ig_Vv (As := []) (rest := []) (N := ck_N) (Wd := ck_W cI cZ a) (σ := ck_0) (σ1 := σ1) ⟨hx, hb, hml, hown, hts⟩ (c_X5_makeWhole l D cI cZ a A ck_0 σ1 h) (cwV 0 hts gX7_init_X5_makeWhole rfl rfl rfl (by decide +kernel) ⟨Nat.le_of_ble_eq_true rfl, Nat.le_of_ble_eq_true rfl⟩) (va_recv hK hP (ci := 3) (q0 := 1) rfl rfl) hP hK hD hN hS rfl hl.1 rfl (Nat.le_of_ble_eq_true rfl) dX7_init_71 ⟨show 15 + 0 ≤ 15 by decide, show 3095 + 0 ≤ 3095 by decide⟩ (fun H locs hP hD hS => ?_)
  exact W.vret hx hb hr (fun t ht hW => ⟨⟨a, rfl, rfl, by rw [ht]; exact hP, hD⟩, hS.F ht⟩) hS.2.2 dX7_init_74
