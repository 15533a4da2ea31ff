/-! a file is hung into the root -/
theorem Ac_eq {T V : Nat → Int32} (h : ∀ g, g < 24 → Ac T 0 g → ∀ j, j < 8 → V (g * 47 + 23 + j * 3 + 1) = T (g * 47 + 23 + j * 3 + 1)) (x : Nat) : Ac T 0 x ↔ Ac V 0 x := by
  refine ⟨fun q S h0 hc => ?_, fun q => q (Ac T 0) Ac_p (fun g hg a k hk y hy e => Ac_cl g hg a k hk y hy ((h g hg a k hk).symm.trans e))⟩
  have := q (fun g => S g ∧ Ac T 0 g) ⟨h0, Ac_p⟩ (fun g hg a k hk y hy e => ⟨hc g hg a.1 k hk y hy ((h g hg a.2 k hk).trans e), Ac_cl g hg a.2 k hk y hy e⟩)
  exact this.1
theorem Ac_no {T : Nat → Int32} {k : Nat} (hk : k < 24) (h1 : 1 ≤ k) (h : ∀ g, g < 24 → ∀ j, j < 8 → T (g * 47 + 23 + j * 3 + 1) ≠ nI (k + 1)) : ¬ Ac T 0 k := fun q =>
  q (fun g => g ≠ k) (by omega) (fun g hg _ j hj y _ e c => h g hg j hj (by rw [e, c])) rfl
theorem Sx_wipe {T : Nat → Int32} {k : Nat} (hS : Sx T) (hk : k < 24) (h1 : 1 ≤ k) (hno : ∀ g, g < 24 → ∀ j, j < 8 → T (g * 47 + 23 + j * 3 + 1) ≠ nI (k + 1)) : Sx (wz T (k * 47) (k * 47 + 47)) := by
  have out : ∀ g, g < 24 → g ≠ k → ∀ i, g * 47 ≤ i → i < g * 47 + 47 → wz T (k * 47) (k * 47 + 47) i = T i := fun g _ c i i1 i2 => wz_out (by rcases Nat.lt_or_ge g k with q | q <;> omega)
  have c0 : ∀ w, w < 47 → wz T (k * 47) (k * 47 + 47) (k * 47 + w) = 0 := fun w hw => wz_in (by omega) (by omega)
  refine ⟨fun g hg => ?_, ?_, fun g hg => ?_⟩
  · by_cases c : g = k
    · subst c
      refine ⟨⟨0, by omega, c0 0 (by omega)⟩, fun _ => c0, fun _ w _ hw => c0 w hw, fun j hj => Vk_0 ?_ ?_⟩
      · rw [show g * 47 + 5 + j * 3 + 1 = g * 47 + (5 + j * 3 + 1) by omega]; exact c0 _ (by omega)
      · rw [show g * 47 + 5 + j * 3 + 2 = g * 47 + (5 + j * 3 + 2) by omega]; exact c0 _ (by omega)
    · exact Ok1_eq (hS.1 g hg) (out g hg c)
  · rw [wz_out (by omega)]; exact hS.2.1
  · by_cases c : g = k
    · subst c
      refine ⟨0, by omega, fun j hj => absurd hj (by omega), fun j _ hj => ⟨?_, ?_, ?_⟩⟩
      · rw [show g * 47 + 23 + j * 3 = g * 47 + (23 + j * 3) by omega]; exact c0 _ (by omega)
      · rw [show g * 47 + 23 + j * 3 + 1 = g * 47 + (23 + j * 3 + 1) by omega]; exact c0 _ (by omega)
      · rw [show g * 47 + 23 + j * 3 + 2 = g * 47 + (23 + j * 3 + 2) by omega]; exact c0 _ (by omega)
    · obtain ⟨n, n8, n1, n2⟩ := hS.2.2 g hg
      refine ⟨n, n8, fun j hj => ?_, fun j j1 j2 => E0_eq (n2 j j1 j2) (fun w hw => out g hg c _ (by omega) (by omega))⟩
      obtain ⟨a, h, b1, b2, b3, b4⟩ := n1 j hj
      refine ⟨by rw [out g hg c _ (by omega) (by omega)]; exact a, h, b1, b2, by rw [out g hg c _ (by omega) (by omega)]; exact b3, ?_⟩
      rw [out h b2 (fun q => hno g hg j (by omega) (by rw [b3, q])) _ (by omega) (by omega)]
      exact b4
theorem Sx_put {V : Nat → Int32} {n p : Nat} {a c : Int32} (hS : Sx V) (hn : n < 8) (n1 : ∀ k, k < n → Ek V 0 k) (n2 : ∀ k, n ≤ k → k < 8 → E0 V 0 k) (hp : p < 24) (h1 : 1 ≤ p) (kp : V (p * 47) ≠ 0) (ha : a ≠ 0) : Sx (u3 V (0 * 47 + 23 + n * 3) a (nI (p + 1)) c) := by
  have kd : ∀ y, y < 24 → u3 V (0 * 47 + 23 + n * 3) a (nI (p + 1)) c (y * 47) = V (y * 47) := fun y _ => u3_ne (by rcases Nat.eq_zero_or_pos y with q | q <;> omega)
  refine ⟨fun g hg => ?_, (kd 0 (by omega)).trans hS.2.1, fun g hg => ?_⟩
  · by_cases e : g = 0
    · subst e
      obtain ⟨o1, o2, o3, o4⟩ := hS.1 0 hg
      refine ⟨by rw [kd 0 hg]; exact o1, fun q => ?_, fun q => ?_, fun k hk => Vk_eq (o4 k hk) (u3_ne (by omega)) (u3_ne (by omega))⟩
      · rw [kd 0 hg] at q
        exact absurd (hS.2.1.symm.trans q) (by decide)
      · rw [kd 0 hg] at q
        exact absurd hS.2.1 q
    · exact Ok1_eq (hS.1 g hg) (fun i i1 i2 => u3_ne (by omega))
  · by_cases e : g = 0
    · subst e
      refine ⟨n + 1, by omega, fun k hk => ?_, fun k k1 k2 => E0_eq (n2 k (by omega) k2) (fun w hw => u3_ne (by omega))⟩
      rcases Nat.lt_or_ge k n with q | q
      · exact Ek_eq (n1 k q) (u3_ne (by omega)) (u3_ne (by omega)) kd
      · rw [show k = n by omega]
        refine ⟨?_, p, h1, hp, ?_, ?_⟩
        · rw [u3_at, if_neg (by omega), if_neg (by omega), if_pos rfl]; exact ha
        · rw [u3_at, if_neg (by omega), if_pos rfl]
        · rw [kd p hp]; exact kp
    · exact Ef_eq (hS.2.2 g hg) (fun i i1 i2 => u3_ne (by omega)) kd
theorem fi_is {c : Nat → Int32} {v : Int32} {n : Nat} (hn : n ≤ 8) (h1 : ∀ j, j < n → c j ≠ v) (h2 : n < 8 → c n = v) : fi c v 8 0 = n := by
  have a := fi_le (c := c) (v := v) 8 0
  rcases Nat.lt_or_ge (fi c v 8 0) n with q | q
  · exact absurd (fi_at (c := c) (v := v) 8 0 (by omega)) (h1 _ q)
  · rcases Nat.lt_or_ge n (fi c v 8 0) with r | r
    · exact absurd (h2 (by omega)) (fi_lo 8 0 n (by omega) r)
    · omega
theorem new_name {c : Nat → Int32} {n : Nat} (hn : n ≤ 8) : ∃ m, m ≤ n ∧ ¬ fi c (nI (m + 1)) n 0 < n ∧ ∀ j, j < m → fi c (nI (j + 1)) n 0 < n := by
  have ex : ∃ m, m < n + 1 ∧ ¬ fi c (nI (m + 1)) n 0 < n := Classical.byContradiction fun q => by
    have all : ∀ i, i < n + 1 → fi c (nI (i + 1)) n 0 < n := fun i hi => Classical.byContradiction fun e => q ⟨i, hi, e⟩
    obtain ⟨i, j, ij, jn, e⟩ := php n (fun i => fi c (nI (i + 1)) n 0) all
    have e' : fi c (nI (i + 1)) n 0 = fi c (nI (j + 1)) n 0 := e
    have a := fi_at (c := c) (v := nI (i + 1)) n 0 (by have := all i (by omega); omega)
    have b := fi_at (c := c) (v := nI (j + 1)) n 0 (by have := all j jn; omega)
    rw [e', b] at a
    have := (nI_eq (by omega) (by omega)).mp a
    omega
  obtain ⟨m, ⟨h1, h2⟩, h3⟩ := pk_least (fun m => m < n + 1 ∧ ¬ fi c (nI (m + 1)) n 0 < n) ex
  exact ⟨m, by omega, h2, fun j hj => Classical.byContradiction fun e => h3 j hj ⟨by omega, e⟩⟩
theorem pm_newName {s : ck_S} {n m : Nat} (hn : n ≤ 8) (hm : m ≤ n) (h1 : ¬ fi (en s 0) (nI (m + 1)) n 0 < n) (h2 : ∀ j, j < m → fi (en s 0) (nI (j + 1)) n 0 < n) : fX2_leastNewName (nI n) s = some (nI (m + 1)) := by
  have pl : ∀ v : Int32, fX5_placeOfName 1 (nI n) v s = some (nI (fi (en s 0) v n 0)) := fun v => pm_place (g := 0) (by omega) hn
  have le : ∀ v : Int32, fi (en s 0) v n 0 ≤ n := fun v => by have := fi_le (c := en s 0) (v := v) n 0; omega
  unfold fX2_leastNewName
  refine qp1_for (fun k => nI (k + 1)) (i := 0) (N := m) (by omega) (by omega) (fun k k1 k2 rec => ?_) (fun rec => ?_)
  · show (if nI n < nI (k + 1) then _ else (fX5_placeOfName 1 (nI n) (nI (k + 1)) s).bind fun v3 => if nI n ≤ v3 then _ else _) = _
    rw [if_neg (nI_nlt (by omega) (by omega)), pl, Option.bind_some, if_neg (nI_ge (h2 k k2) (by omega)), pm_s1]
  · show (if nI n < nI (m + 1) then _ else (fX5_placeOfName 1 (nI n) (nI (m + 1)) s).bind fun v3 => if nI n ≤ v3 then _ else _) = _
    by_cases c : n < m + 1
    · rw [if_pos (nI_lt c (by omega))]
    · have := le (nI (m + 1))
      rw [if_neg (nI_nlt (by omega) (by omega)), pl, Option.bind_some, if_pos (nI_le (by omega) (by omega))]
theorem pm_slot {z : Nat → Int32} {s : ck_S} {r : mk_S} {E : Int32 → Option mk_S} {n : Nat} (hR : Rz z s r) (hn : n ≤ 8) (h1 : ∀ j, j < n → en s 0 j ≠ 0) (h2 : n < 8 → en s 0 n = 0) : qp1 FU (fun rec7 (x2 : Int32) =>
    jn (fun (_u : Unit) => E x2) (fun j32 =>
    if 8 ≤ x2 then (
      j32 ()
      ) else (
      (fX8_entryAt 1 x2).bind fun v12 =>
      (mk_rd_all r v12).bind fun v13 =>
      if v13 = 0 then (
        j32 ()
        ) else (
        rec7 (x2 + 1)
        )
      )
    )) 0 = E (nI n) := by
  have ea : ∀ k, fX8_entryAt 1 (nI k) = some (nI (0 * 47 + 70 + k * 3)) := fun k => pm_entryAt (g := 0)
  refine qp1_for (fun k => nI k) (i := 0) (N := n) (by omega) (by omega) (fun k k1 k2 rec => ?_) (fun rec => ?_)
  · simp only [jn, if_neg (uge 8 8 k), ea, (rz_ent hR (g := 0) (by omega) (show k < 8 by omega)).1, Option.bind_some, if_neg (h1 k k2), pm_s1]
  · by_cases c : n < 8
    · simp only [jn, if_neg (uge 8 8 n), ea, (rz_ent hR (g := 0) (by omega) c).1, Option.bind_some, if_pos (h2 c)]
    · simp only [jn, if_pos (ule 8 8 n)]
theorem pm_mname {z : Nat → Int32} {s : ck_S} {r : mk_S} {E : Int32 → Option mk_S} {n m : Nat} (hR : Rz z s r) (hn : n ≤ 8) (hm : m ≤ n) (h1 : ¬ fi (en s 0) (nI (m + 1)) n 0 < n) (h2 : ∀ j, j < m → fi (en s 0) (nI (j + 1)) n 0 < n) : qp1 FU (fun rec46 (x4 : Int32) =>
          (fX8_hasName 1 (nI n) x4 r).bind fun v5 =>
          if v5 = 0 then (
            E x4
            ) else (
            rec46 (x4 + 1)
            )
          ) 1 = E (nI (m + 1)) := by
  have hN : ∀ v : Int32, fX8_hasName 1 (nI n) v r = some (if fi (en s 0) v n 0 < n then 1 else 0) := fun v => pm_hasName (g := 0) hR (by omega) hn
  refine qp1_for (fun k => nI (k + 1)) (i := 0) (N := m) (by omega) (by omega) (fun k k1 k2 rec => ?_) (fun rec => ?_)
  · show ((fX8_hasName 1 (nI n) (nI (k + 1)) r).bind fun v5 => if v5 = 0 then _ else rec (nI (k + 1) + 1)) = _
    rw [hN, Option.bind_some, if_pos (h2 k k2), if_neg (by decide), pm_s1]
  · show ((fX8_hasName 1 (nI n) (nI (m + 1)) r).bind fun v5 => if v5 = 0 then E (nI (m + 1)) else _) = _
    rw [hN, Option.bind_some, if_neg h1, if_pos rfl]
/-- what hanging p leaves -/
def Hg (z : Nat → Int32) (s : ck_S) (r : mk_S) (p : Nat) (s1 : ck_S) (r1 : mk_S) : Prop := ∃ V, Fr3 (ck_set_cells s V) s1 ∧ r1 = mk_set_all r (mA V z) ∧ Sx V ∧ (∀ i, 1128 ≤ i → V i = ck_cells s i) ∧ (∀ g, g < 24 → g ≠ p → V (g * 47) = ck_cells s (g * 47)) ∧ (∀ g, g < 24 → ∀ j, j < 8 → ∀ h, h < 24 → V (g * 47 + 23 + j * 3 + 1) = nI (h + 1) → h = p ∨ ∃ i, i < 8 ∧ ck_cells s (g * 47 + 23 + i * 3 + 1) = nI (h + 1)) ∧ ∀ g, g < 24 → (ck_reached s1 (g + 1) ≠ 0 ↔ Ac V 0 g)
theorem hang_rl {z : Nat → Int32} {s : ck_S} {r : mk_S} {p : Nat} (hR : Rz z s r) (hS : Sx (ck_cells s)) (hp : p < 24) (h1 : 1 ≤ p) (kp : ck_cells s (p * 47) ≠ 0) (hm : ∀ g, g < 24 → (ck_reached s (g + 1) ≠ 0 ↔ Ac (ck_cells s) 0 g)) (hu : ck_reached s (p + 1) = 0) : rl (Hg z s r p) (fX2_hangInRoot (nI (p + 1)) s) (fX8_hang (nI (p + 1)) r) := by
  unfold fX2_hangInRoot fX8_hang
  refine rl_bd (drop_rl hR hS hp) (fun s1 r1 h => ?_)
  obtain ⟨V, rfl, rfl, vS, v1, v2, v3, v4⟩ := h
  have hRV : Rz z (ck_set_cells s V) (mk_set_all r (mA V z)) := Rz_set hR v1
  have kd : ∀ g, g < 24 → V (g * 47) = ck_cells s (g * 47) := fun g hg => v2 g hg 0 (by omega)
  have nAp : ¬ Ac (ck_cells s) 0 p := fun q => (hm p hp).mpr q hu
  have acV : ∀ x, Ac (ck_cells s) 0 x ↔ Ac V 0 x := Ac_eq (fun g hg ha j hj => v4 g hg (fun k hk q => nAp (Ac_cl g hg ha k hk p hp q)) _ (by omega) (by omega))
  obtain ⟨n, n8, n1, n2⟩ := vS.2.2 0 (by omega)
  have e1 : ∀ j, j < n → en (ck_set_cells s V) 0 j ≠ 0 := fun j hj => (n1 j hj).1
  have e2 : n < 8 → en (ck_set_cells s V) 0 n = 0 := fun q => (n2 n (by omega) q).1
  rw [show fX5_placeOfName 1 8 0 (ck_set_cells s V) = some (nI (fi (en (ck_set_cells s V) 0) 0 8 0)) from pm_place (g := 0) (n := 8) (by omega) (by omega), fi_is n8 e1 e2, Option.bind_some]
  refine Eq.mpr (congrArg (rl _ _) (pm_slot (E := fun x2 => _) hRV n8 e1 e2)) ?_
  rcases Nat.lt_or_ge n 8 with c | c
  · rw [if_pos (vlt n 8 8), if_neg (show ¬ nI n = 8 from fun q => by have := (nI_eq (b := 8) (by omega) (by omega)).mp q; omega)]
    obtain ⟨m, m1, m2, m3⟩ := new_name (c := en (ck_set_cells s V) 0) n8
    rw [pm_newName n8 m1 m2 m3, Option.bind_some, pm_k0 hp, Option.bind_some, show fX5_putEntry 1 (nI n) (nI (m + 1)) (nI (p + 1)) (ck_cells (ck_set_cells s V) (p * 47)) (ck_set_cells s V) = some (cw3 (ck_set_cells s V) (0 * 47 + 23 + n * 3) (nI (m + 1)) (nI (p + 1)) (ck_cells (ck_set_cells s V) (p * 47))) from pm_putEntry (g := 0) (by omega) c, Option.bind_some, cw3_u3]
    refine Eq.mpr (congrArg (rl _ _) (pm_mname (E := fun x4 => _) hRV n8 m1 m2 m3)) ?_
    rw [show fX8_entryAt 1 (nI n) = some (nI (0 * 47 + 70 + n * 3)) from pm_entryAt (g := 0), Option.bind_some, rz_kind hRV hp, Option.bind_some, pm_put (by omega), Option.bind_some, show 0 * 47 + 70 + n * 3 = 0 * 47 + 23 + n * 3 + 47 by omega, mw3_u3 (by omega)]
    obtain ⟨W, eW⟩ : ∃ W, W = u3 V (0 * 47 + 23 + n * 3) (nI (m + 1)) (nI (p + 1)) (ck_cells (ck_set_cells s V) (p * 47)) := ⟨_, rfl⟩
    rw [← eW]
    have hW : Sx W := by
      rw [eW]
      exact Sx_put vS c n1 n2 hp h1 (by rw [kd p hp]; exact kp) (nI_ne0 (by omega) (by omega))
    have wp : W (0 * 47 + 23 + n * 3 + 1) = nI (p + 1) := by rw [eW, u3_at, if_neg (by omega), if_pos rfl]
    have wo : ∀ g, g < 24 → ∀ j, j < 8 → ¬ (g = 0 ∧ j = n) → W (g * 47 + 23 + j * 3 + 1) = V (g * 47 + 23 + j * 3 + 1) := fun g hg j hj q => by
      rw [eW]; exact u3_ne (by rcases Nat.eq_zero_or_pos g with a | a <;> omega)
    have vw : ∀ g, g < 24 → ∀ j, j < 8 → ∀ h, h < 24 → V (g * 47 + 23 + j * 3 + 1) = nI (h + 1) → W (g * 47 + 23 + j * 3 + 1) = nI (h + 1) := fun g hg j hj h hh e => by
      rw [wo g hg j hj (fun q => by
        rw [q.1, q.2, (n2 n (by omega) c).2.1] at e
        exact nI_ne0 (n := h + 1) (by omega) (by omega) e.symm)]
      exact e
    refine rl_c (rfrom_ok (σ := ck_set_cells s W) hp) (fun s7 h7 => ?_)
    obtain ⟨f1, f2, f3, f4, f5⟩ := h7
    refine rl_ret ⟨W, f1, rfl, hW, fun i hi => ?_, fun g hg q => ?_, fun g hg j hj h hh e => ?_, fun g hg => ⟨fun q => ?_, fun q => ?_⟩⟩
    · rw [eW, u3_ne (by omega)]; exact v1 i hi
    · rw [eW, u3_ne (by rcases Nat.eq_zero_or_pos g with a | a <;> omega)]; exact kd g hg
    · by_cases q : g = 0 ∧ j = n
      · rw [q.1, q.2, wp] at e
        have := (nI_eq (by omega) (by omega)).mp e
        exact Or.inl (by omega)
      · rw [wo g hg j hj q] at e
        rcases (v3 g hg j hj).2 with a | ⟨i, i1, i2⟩
        · rw [a] at e
          exact absurd e.symm (nI_ne0 (by omega) (by omega))
        · exact Or.inr ⟨i, i1, i2.trans e⟩
    · have up : ∀ x, Ac V 0 x → Ac W 0 x := fun x a S b1 b2 => a S b1 (fun g hg sg k hk y hy ey => b2 g hg sg k hk y hy (vw g hg k hk y hy ey))
      rcases f4 g hg q with a | a
      · exact up g ((acV g).mp ((hm g hg).mp a))
      · intro S b1 b2
        exact a S (b2 0 (by omega) b1 n c p hp wp) b2
    · refine q (fun g => ck_reached s7 (g + 1) ≠ 0) (f2 0 (by omega) ((hm 0 (by omega)).mpr Ac_p)) (fun g hg a k hk y hy ey => ?_)
      by_cases old : ck_reached s (g + 1) = 0
      · exact f5 g hg a old k hk y hy ey
      · by_cases q : g = 0 ∧ k = n
        · rw [q.1, q.2, wp] at ey
          have := (nI_eq (by omega) (by omega)).mp ey
          have e3 : y = p := by omega
          rw [e3]; exact f3
        · rw [wo g hg k hk q] at ey
          have a2 := (acV g).mp ((hm g hg).mp old)
          exact f2 y hy ((hm y hy).mpr ((acV y).mpr (Ac_cl g hg a2 k hk y hy ey)))
  · have e8 : n = 8 := by omega
    subst e8
    rw [if_neg (vnl 8 8 8), if_pos (show nI 8 = 8 from rfl), pm_wf hp, Option.bind_some, pm_drop hp, Option.bind_some]
    have hno : ∀ g, g < 24 → ∀ j, j < 8 → V (g * 47 + 23 + j * 3 + 1) ≠ nI (p + 1) := fun g hg j hj => (v3 g hg j hj).1
    have e3 : mz (mk_set_all r (mA V z)) (p * 47 + 47) (p * 47 + 47 + 47) = mk_set_all r (mA (wz V (p * 47) (p * 47 + 47)) z) := by
      show mk_set_all r (wz (mA V z) (p * 47 + 47) (p * 47 + 47 + 47)) = _
      rw [mA_wz (by omega)]
    rw [e3]
    have nVp : ¬ Ac V 0 p := fun q => nAp ((acV p).mpr q)
    have out : ∀ g, g < 24 → g ≠ p → ∀ i, g * 47 ≤ i → i < g * 47 + 47 → wz V (p * 47) (p * 47 + 47) i = V i := fun g _ q i i1 i2 => wz_out (by rcases Nat.lt_or_ge g p with q | q <;> omega)
    have acW : ∀ x, Ac V 0 x ↔ Ac (wz V (p * 47) (p * 47 + 47)) 0 x := Ac_eq (fun g hg ha j hj => out g hg (fun q => nVp (q ▸ ha)) _ (by omega) (by omega))
    refine rl_ret ⟨wz V (p * 47) (p * 47 + 47), ⟨rfl, rfl, rfl, rfl, rfl, rfl⟩, rfl, Sx_wipe vS hp h1 hno, fun i hi => ?_, fun g hg q => ?_, fun g hg j hj h hh e => ?_, fun g hg => ?_⟩
    · rw [wz_out (by omega)]; exact v1 i hi
    · rw [out g hg q _ (by omega) (by omega)]; exact kd g hg
    · by_cases q : g = p
      · subst q
        rw [wz_in (by omega) (by omega)] at e
        exact absurd e.symm (nI_ne0 (by omega) (by omega))
      · rw [out g hg q _ (by omega) (by omega)] at e
        rcases (v3 g hg j hj).2 with a | ⟨i, i1, i2⟩
        · rw [a] at e
          exact absurd e.symm (nI_ne0 (by omega) (by omega))
        · exact Or.inr ⟨i, i1, i2.trans e⟩
    · exact (hm g hg).trans ((acV g).trans (acW g))
