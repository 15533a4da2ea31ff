section NKJ
variable {p : Program} {l : Launch} {e : Env} {R : Room} {s : State} {m : MethodId} {args : Array Value} {below : List Frame} {meth : Method} {c : Code} {H : Heap} {locs : List Loc} {cells slots : Nat} {Q : State → Prop} {cc : ByteArray} {pc : Nat} {ls : Array Slot} {rest : List Value} {D : va_G} {cl : List vw_C} {A : Nat → Prop} {tys : List (ClassId × FieldType)} {ws : va_W} {H0 : Heap}
theorem nk_newJ (hexec : p.tables.exec = Jvm.exec) (hb : c.code = cc) (harr : (Cond.arrayClass .long).before args s = true) (hK : va_K D cl tys s) (t0 : Nat) {c0 : ClassId} (ht : tys[t0]? = some (c0, .long)) (hP : va_P D cl ws H) (hD : va_D A ws) (hS : va_S A H0 H locs) (hA : ∀ q, H0.size ≤ q → A q)
    {n : Int32} (N' : Nat) (hn : ¬ n < 0) (hN : n.toNatClampNeg = N') (hbytes : N' ≤ 10000) (hcells : cells + 1 ≤ R.cells) (hslots : slots + N' ≤ R.slots) (hdg : decode cc pc = .ok (.newarray .long, 2))
    (kk : ∀ (q : Nat) (H1 : Heap), va_P D cl (ws ++ [(q, .inl (c0, N', .inr (.inl (fun _ => 0))))]) H1 → va_D A (ws ++ [(q, .inl (c0, N', .inr (.inl (fun _ => 0))))]) → va_S A H0 H1 locs →
      W p l e R s m args below meth c H1 locs (cells + 1) (slots + N') Q (F0 m (pc + 2) ls (.ref q :: rest))) : W p l e R s m args below meth c H locs cells slots Q (F0 m pc ls (.int n :: rest)) :=
  nk_newa (atype := .long) (ty := .long) (a0 := (N', .inr (.inl (fun _ => 0)))) hexec hb harr rfl rfl hK t0 ht hP hD hS hA (fun _ => rfl) hn hN (by show N' * 8 ≤ _; omega) hcells hslots hdg kk
end NKJ
set_option maxHeartbeats 4000000 in
set_option maxRecDepth 100000 in
theorem whole_open {p : Program} {e : Env} {s : State} {m : MethodId} {below : List Frame} {meth : Method} {c : Code} (l : Launch) (hl0 : l.stackTraces = false) {Rl : ck_S → mk_S → Prop} (MM : lm_all Rl) {b L : Nat} {xs : Nat → Int32} (hL : L ≤ 3072) (C0 : lw_At p s m meth c b L xs) : W p l e room_1 s m #[Value.ref b] below meth c s.heap [] 0 0 (lw_Z below #[Value.ref b] s) (entryFrame m ([Value.ref b] : List Value).toArray 7) := by
  obtain ⟨hx, hb, hr, hml, hown, hts, hSc, hbl, hlocks, hgv⟩ := id C0
  have hA : ∀ q : Nat, s.heap.size ≤ q → (fun q : Nat => s.heap.size ≤ q) q := fun _ h => h
  have hbA : ¬ (fun q : Nat => s.heap.size ≤ q) b := Nat.not_le.mpr hbl
  have hs9 := flat_of_before _ hgv
  have htL : ∀ w ∈ wsL_law, w.before #[Value.ref b] s = true := fun w h => hts w (ln_law w h)
  obtain ⟨k0, i0, hKn0⟩ := u_known (C := RX1) (T := TX1) (N := 1) (n := 1) hts ln_wsX10 (hts (.instantiable RX1 1) (by decide +kernel))
  obtain ⟨k1, i1, hKn1⟩ := u_known (C := RX2) (T := TX2) (N := 3) (n := 3) hts ln_wsX20 (hts (.instantiable RX2 3) (by decide +kernel))
  obtain ⟨k2, i2, hKn2⟩ := u_known (C := RX4) (T := TX4) (N := 1) (n := 1) hts ln_wsX40 (hts (.instantiable RX4 1) (by decide +kernel))
  obtain ⟨k3, i3, hKn3⟩ := u_known (C := RX5) (T := TX5) (N := 2) (n := 2) hts ln_wsX50 (hts (.instantiable RX5 2) (by decide +kernel))
  obtain ⟨k4, i4, hKn4⟩ := u_known (C := RX6) (T := TX6) (N := 4) (n := 4) hts ln_wsX60 (hts (.instantiable RX6 4) (by decide +kernel))
  obtain ⟨k5, i5, hKn5⟩ := u_known (C := RX7) (T := TX7) (N := 6) (n := 6) hts ln_wsX70 (hts (.instantiable RX7 6) (by decide +kernel))
  obtain ⟨k6, i6, hKn6⟩ := u_known (C := RX8) (T := TX8) (N := 10) (n := 10) hts ln_wsX80 (hts (.instantiable RX8 10) (by decide +kernel))
  obtain ⟨cI, aI, rI⟩ := lk_st (ty := .int) rfl (hts (.arrayClass .int) (by decide +kernel))
  obtain ⟨cZ, aZ, rZ⟩ := lk_st (ty := .boolean) rfl (hts (.arrayClass .boolean) (by decide +kernel))
  obtain ⟨cJ, aJ, rJ⟩ := lk_st (ty := .long) rfl (hts (.arrayClass .long) (by decide +kernel))
  obtain ⟨D, hKc⟩ : ∃ D : va_G, ∀ (k : Nat) (q : vw_C), vwCl[k]? = some q → u_Kn s q.1 q.2.1 q.2.2 (D.1 k) (D.2 k) := by
    refine ⟨(fun k => if k = 0 then k0 else if k = 1 then k1 else if k = 2 then k2 else if k = 3 then k3 else if k = 4 then k4 else if k = 5 then k5 else k6, fun k => if k = 0 then i0 else if k = 1 then i1 else if k = 2 then i2 else if k = 3 then i3 else if k = 4 then i4 else if k = 5 then i5 else i6), ?_⟩
    intro k q hq
    match k, hq with
    | 0, hq => cases hq; exact hKn0
    | 1, hq => cases hq; exact hKn1
    | 2, hq => cases hq; exact hKn2
    | 3, hq => cases hq; exact hKn3
    | 4, hq => cases hq; exact hKn4
    | 5, hq => cases hq; exact hKn5
    | 6, hq => cases hq; exact hKn6
    | k + 7, hq => simp [vwCl] at hq
  have hK : va_K D vwCl (lk_T cI cZ cJ) s := by
    refine ⟨hKc, fun k q h => ?_⟩
    match k, h with
    | 0, h => cases h; exact ⟨aI, rI⟩
    | 1, h => cases h; exact ⟨aZ, rZ⟩
    | 2, h => cases h; exact ⟨aJ, rJ⟩
    | k + 3, h => simp [lk_T] at h
  have hK2 : va_K D vwCl [(cI, .int), (cZ, .boolean)] s := hK.sub [0, 1] rfl
  have hN : ∀ q ∈ ck_N, va_Nw (.methodLinkNest q.1 q.2.1 q.2.2 "ImageChecker") s := by
    refine fun q hq => va_Nw.of (A := #[Value.ref b]) rfl (hts _ ?_)
    revert q
    exact (by decide +kernel : ∀ q ∈ ck_N, Cond.methodLinkNest q.1 q.2.1 q.2.2 "ImageChecker" ∈ lw_tbl)
  have hXk : xk_P (fun q : Nat => s.heap.size ≤ q) s := by
    refine ⟨vx_Zqof (args := #[Value.ref b]) (hts (.laysStatic Bundle.tN "UNASSIGNED_STACK" Bundle.steD) (by decide +kernel)) (hts (.initialized Bundle.tN) (by decide +kernel)) (hs9 (.isRef (.static Bundle.tN "UNASSIGNED_STACK" Bundle.steD)) (by decide +kernel)) (fun a h => Nat.not_le.mpr h), vx_Zqof (args := #[Value.ref b]) (hts (.laysStatic Bundle.tN "SUPPRESSED_SENTINEL" Bundle.listD) (by decide +kernel)) (hts (.initialized Bundle.tN) (by decide +kernel)) (hs9 (.isRef (.static Bundle.tN "SUPPRESSED_SENTINEL" Bundle.listD)) (by decide +kernel)) (fun a h => Nat.not_le.mpr h), ⟨va_Nw.of rfl (hts (.castable xk_E xk_E) (by decide +kernel)), va_Nw.of rfl (hts (.declares (Bundle.initS "java/lang/RuntimeException")) (by decide +kernel)), va_Nw.of rfl (hts (.declares (Bundle.initS "java/lang/Exception")) (by decide +kernel)), va_Nw.of rfl (hts (.declares (Bundle.initS Bundle.tN)) (by decide +kernel))⟩, ?_, ?_, ?_⟩
    · exact lk_str (hts (.stringRef RX7 143 "there is no such file") (by decide +kernel)) (hs9 (.exactly (.string RX7 143) "java/lang/String") (by decide +kernel))
    · exact lk_str (hts (.stringRef RX7 148 "there is no such place") (by decide +kernel)) (hs9 (.exactly (.string RX7 148) "java/lang/String") (by decide +kernel))
    · exact lk_str (hts (.stringRef RX7 150 "there is no such bit") (by decide +kernel)) (hs9 (.exactly (.string RX7 150) "java/lang/String") (by decide +kernel))
  have CX : lk_Cx p l s m meth c D cI cZ cJ b L xs := ⟨hx, hb, hr, hml, hown, htL, hSc, hbl, hlocks, hl0, hK, hN, hXk⟩
  have hb : c.code = cL_law := hb
  obtain ⟨⟨σ1, ρ1, g1, g2, g3⟩, -⟩ := id MM
  have hS : va_S (fun q : Nat => s.heap.size ≤ q) s.heap s.heap [] := va_S.rf
  have hP : va_P D vwCl [] s.heap := fun k q h => by simp at h
  have hD : va_D (fun q : Nat => s.heap.size ≤ q) [] := ⟨fun i j p q h => by simp at h, fun k q h => by simp at h⟩
  have hl := lv_entry ([.ref b]) (n := 7) (Nat.le_of_ble_eq_true rfl)
  rw [lg_entry_eq]
  generalize (lg_sl ([.ref b]) ++ List.replicate (7 - (lg_sl ([.ref b])).length) Slot.unset).toArray = ls at hl ⊢
  have hl : lv_has ls 7 [(0, .ref b)] := hl
  refine va_new (ci := 5) (fs := [.null, .null, .null, .null, .null, .null]) (C := RX7) (T := TX7) (N := 6) hx hb hts ln_wsX70 tyX7 tyX7_ok hown (hts (.classLink RL 8 RX7) (by decide +kernel)) (hts (.instantiable RX7 6) (by decide +kernel)) (hts (.initialized RX7) (by decide +kernel)) hK hP hD hS hA rfl (fun j hj => by rcases (show j = 0 ∨ j = 1 ∨ j = 2 ∨ j = 3 ∨ j = 4 ∨ j = 5 by omega) with rfl | rfl | rfl | rfl | rfl | rfl <;> rfl) (show 0 + 1 ≤ 1053 by decide) (show 0 + 6 ≤ 14505 by decide) dL_law_0 (fun q0 H hP hD hS => ?_)
  have hP : va_P D vwCl [(q0, .inr (5, [.null, .null, .null, .null, .null, .null]))] H := hP
  have hD : va_D (fun q : Nat => s.heap.size ≤ q) [(q0, .inr (5, [.null, .null, .null, .null, .null, .null]))] := hD
  refine W.widen (k := 1) (n := 6) (by decide) (by decide) ?_
  refine lv_dup hx hb dL_law_3 rfl ?_
  have hPc := hP.sub (ws' := [(q0, .inr (5, [.null, .null, .null, .null, .null, .null]))]) [0] rfl
  have hDc := hD.sub (ws' := [(q0, .inr (5, [.null, .null, .null, .null, .null, .null]))]) [0] (by decide) rfl
  have hFc := va_free (wc := [(q0, .inr (5, [.null, .null, .null, .null, .null, .null]))]) hD hS hA [0] rfl
  refine va_callv (va_runI (As := []) (rest := [.ref q0]) ⟨hx, hb, hml, hown, htL⟩ (c_X7_init l D cI cZ q0 H.size σ1 g1) (cwI 0 htL gL_law_X7_init rfl rfl rfl (hts (.initialized RX7) (by decide +kernel)) (hts (.methodLink RL 53 yX7_init) (by decide +kernel)) (hts (.instanceMethod yX7_init) (by decide +kernel)) rfl (by decide +kernel) ⟨Nat.le_of_ble_eq_true rfl, Nat.le_of_ble_eq_true rfl⟩) ⟨fun a U g mk q => by obtain ⟨q0, q1, qP, qK, qD, qN⟩ := q; exact ⟨q0, q1, qP, va_K.moved (u := U) (U := U.calling g mk a) (Vm.Alike.refl U.vm) qK, qD, fun q h => va_Nw.same rfl rfl (qN q h)⟩, fun U hU hW => ⟨rfl, by rw [hU], by rw [hU]; exact hPc, va_K.moved hW.alike hK2, hDc.weaken (fun _ _ _ _ => trivial), fun q h => va_Nw.warmM hW (hN q h)⟩⟩ rfl rfl hl.1 rfl (lv_room (Nat.le_of_ble_eq_true rfl)) dL_law_4 ⟨show 1 + 15 ≤ 1053 by decide, show 6 + 3095 ≤ 14505 by decide⟩) hS (fun q _ h => hFc q h) hFc (fun u t H1 locs ht hvm hw hB hz1 hk1 hS => ?_)
  obtain ⟨a, rfl⟩ : ∃ z, z = u := ⟨_, rfl⟩
  obtain ⟨hP1, hD1⟩ := hB
  rw [ht] at hP1
  have hw : a 0 = q0 := hw
  obtain ⟨hP, hD⟩ := va_join (wr := []) (w1 := ck_W cI cZ a σ1) hP hD [0] [] rfl rfl (by decide) (by decide) hk1 hFc hP1 hD1
  generalize H1 = H at hP hS ⊢
  refine W.widen (k := 16) (n := 3101) (by decide) (by decide) ?_
  rw [← hw]
  clear hw
  have hP : va_P D vwCl (ck_W cI cZ a σ1) H := hP
  have hD : va_D (fun q : Nat => s.heap.size ≤ q) (ck_W cI cZ a σ1) := hD
  refine lv_astore_n (lv' := [(1, .ref (a 0)), (0, .ref b)]) hx hb dL_law_7 rfl hl (by decide) rfl (fun ls hl => ?_)
  refine va_new (ci := 6) (fs := [.int 0, .null, .null, .null, .null, .null, .null, .null, .int 0, .null]) (C := RX8) (T := TX8) (N := 10) hx hb hts ln_wsX80 tyX8 tyX8_ok hown (hts (.classLink RL 54 RX8) (by decide +kernel)) (hts (.instantiable RX8 10) (by decide +kernel)) (hts (.initialized RX8) (by decide +kernel)) hK hP hD hS hA rfl (fun j hj => by rcases (show j = 0 ∨ j = 1 ∨ j = 2 ∨ j = 3 ∨ j = 4 ∨ j = 5 ∨ j = 6 ∨ j = 7 ∨ j = 8 ∨ j = 9 by omega) with rfl | rfl | rfl | rfl | rfl | rfl | rfl | rfl | rfl | rfl <;> rfl) (show 16 + 1 ≤ 1053 by decide) (show 3101 + 10 ≤ 14505 by decide) dL_law_8 (fun q1 H hP hD hS => ?_)
  refine W.widen (k := 17) (n := 3111) (by decide) (by decide) ?_
  refine lv_dup hx hb dL_law_11 rfl ?_
  have hPc := hP.sub (ws' := [(q1, .inr (6, [.int 0, .null, .null, .null, .null, .null, .null, .null, .int 0, .null]))]) [16] rfl
  have hDc := hD.sub (ws' := [(q1, .inr (6, [.int 0, .null, .null, .null, .null, .null, .null, .null, .int 0, .null]))]) [16] (by decide) rfl
  have hFc := va_free (wc := [(q1, .inr (6, [.int 0, .null, .null, .null, .null, .null, .null, .null, .int 0, .null]))]) hD hS hA [16] rfl
  refine va_callv (va_runI (As := []) (rest := [.ref q1]) ⟨hx, hb, hml, hown, htL⟩ (c_X8_init l D cI cZ q1 H.size ρ1 g2) (cwI 0 htL gL_law_X8_init rfl rfl rfl (hts (.initialized RX8) (by decide +kernel)) (hts (.methodLink RL 56 yX8_init) (by decide +kernel)) (hts (.instanceMethod yX8_init) (by decide +kernel)) rfl (by decide +kernel) ⟨Nat.le_of_ble_eq_true rfl, Nat.le_of_ble_eq_true rfl⟩) ⟨fun a U g mk q => by obtain ⟨q0, q1, qP, qK, qD, qN⟩ := q; exact ⟨q0, q1, qP, va_K.moved (u := U) (U := U.calling g mk a) (Vm.Alike.refl U.vm) qK, qD, fun q h => va_Nw.same rfl rfl (qN q h)⟩, fun U hU hW => ⟨rfl, by rw [hU], by rw [hU]; exact hPc, va_K.moved hW.alike hK2, hDc.weaken (fun _ _ _ _ => trivial), fun q h => absurd h List.not_mem_nil⟩⟩ rfl rfl hl.1 rfl (lv_room (Nat.le_of_ble_eq_true rfl)) dL_law_12 ⟨show 17 + 8 ≤ 1053 by decide, show 3111 + 3183 ≤ 14505 by decide⟩) hS (fun q _ h => hFc q h) hFc (fun u t H1 locs ht hvm hw hB hz1 hk1 hS => ?_)
  obtain ⟨g, rfl⟩ : ∃ z, z = u := ⟨_, rfl⟩
  obtain ⟨hP1, hD1⟩ := hB
  rw [ht] at hP1
  have hw : g 0 = q1 := hw
  obtain ⟨hP, hD⟩ := va_join (wr := ck_W cI cZ a σ1) (w1 := mk_W cI cZ g ρ1) hP hD [16] [0, 1, 2, 3, 4, 5, 6, 7, 8, 9, 10, 11, 12, 13, 14, 15] rfl rfl (by decide) (by decide) hk1 hFc hP1 hD1
  generalize H1 = H at hP hS ⊢
  refine W.widen (k := 25) (n := 6294) (by decide) (by decide) ?_
  rw [← hw]
  clear hw
  refine lv_astore_n (lv' := [(2, .ref (g 0)), (1, .ref (a 0)), (0, .ref b)]) hx hb dL_law_15 rfl hl (by decide) rfl (fun ls hl => ?_)
  refine lv_iconst (v := 1) hx hb dL_law_16 (by decide) ?_
  refine nk_newJ hx hb (hts (.arrayClass .long) (by decide +kernel)) hK 2 rfl hP hD hS hA 1 (by decide) (by decide +kernel) (by decide) (show 25 + 1 ≤ 1053 by decide) (show 6294 + 1 ≤ 14505 by decide) dL_law_17 (fun o H hP hD hS => ?_)
  refine W.widen (k := 26) (n := 6295) (by decide) (by decide) ?_
  refine lv_astore_n (lv' := [(3, .ref o), (2, .ref (g 0)), (1, .ref (a 0)), (0, .ref b)]) hx hb dL_law_19 rfl hl (by decide) rfl (fun ls hl => ?_)
  refine lv_iconst (v := 0) hx hb dL_law_20 (by decide) ?_
  refine lv_istore (lv' := [(4, .int 0), (3, .ref o), (2, .ref (g 0)), (1, .ref (a 0)), (0, .ref b)]) hx hb dL_law_21 hl (by decide) rfl (fun ls hl => ?_)
  exact law_loop MM hL CX (L + 1) 0 0 (by omega) (by omega) rfl σ1 ρ1 (fun _ => 0) g3 H _ ls (hP.sub [0, 1, 2, 3, 4, 5, 6, 7, 8, 9, 10, 11, 12, 13, 14, 15, 16, 17, 18, 19, 20, 21, 22, 23, 24, 25] rfl) (hD.sub [0, 1, 2, 3, 4, 5, 6, 7, 8, 9, 10, 11, 12, 13, 14, 15, 16, 17, 18, 19, 20, 21, 22, 23, 24, 25] (by decide) rfl) hS (lv_sub hl [4, 3, 2, 1, 0] rfl)
