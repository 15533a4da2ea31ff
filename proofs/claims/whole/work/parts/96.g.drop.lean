/-! entries are dropped -/
def u3 (T : Nat → Int32) (i : Nat) (x y w : Int32) : Nat → Int32 := upd (upd (upd T i x) (i + 1) y) (i + 2) w
theorem u3_at {T : Nat → Int32} {i j : Nat} {x y w : Int32} : u3 T i x y w j = if j = i + 2 then w else if j = i + 1 then y else if j = i then x else T j := rfl
theorem u3_ne {T : Nat → Int32} {i j : Nat} {x y w : Int32} (h : j < i ∨ i + 2 < j) : u3 T i x y w j = T j := by
  rw [u3_at, if_neg (by omega), if_neg (by omega), if_neg (by omega)]
theorem u3_id {T : Nat → Int32} {i : Nat} : u3 T i (T i) (T (i + 1)) (T (i + 2)) = T := by
  funext j
  rw [u3_at]
  by_cases a : j = i + 2
  · rw [if_pos a, a]
  · rw [if_neg a]
    by_cases b : j = i + 1
    · rw [if_pos b, b]
    · rw [if_neg b]
      by_cases c : j = i
      · rw [if_pos c, c]
      · rw [if_neg c]
theorem cw3_u3 {s : ck_S} {X : Nat → Int32} {i : Nat} {x y w : Int32} : cw3 (ck_set_cells s X) i x y w = ck_set_cells s (u3 X i x y w) := rfl
theorem mw3_u3 {r : mk_S} {Y z : Nat → Int32} {i : Nat} {x y w : Int32} (h : i + 2 < 1128) : mw3 (mk_set_all r (mA Y z)) (i + 47) x y w = mk_set_all r (mA (u3 Y i x y w) z) := by
  show mk_set_all r (upd (upd (upd (mA Y z) (i + 47) x) (i + 47 + 1) y) (i + 47 + 2) w) = _
  have e0 := mA_upd (T := Y) (z := z) (i := i) (v := x) (by omega)
  have e1 := mA_upd (T := upd Y i x) (z := z) (i := i + 1) (v := y) (by omega)
  have e2 := mA_upd (T := upd (upd Y i x) (i + 1) y) (z := z) (i := i + 2) (v := w) (by omega)
  rw [io1 (by omega)] at e0 e1 e2
  rw [show i + 47 + 1 = i + 1 + 47 by omega, show i + 47 + 2 = i + 2 + 47 by omega, e0, e1, e2]; rfl
theorem Rz_set {z Y : Nat → Int32} {s : ck_S} {r : mk_S} (h : Rz z s r) (hY : ∀ i, 1128 ≤ i → Y i = ck_cells s i) : Rz z (ck_set_cells s Y) (mk_set_all r (mA Y z)) := by
  obtain ⟨h1, h2, h3, h4⟩ := h
  exact ⟨rfl, h2, h3, fun i i1 i2 => by show Y i = 0 ∨ Y i = 1; rw [hY i i1]; exact h4 i i1 i2⟩
def Dq (U : Nat → Int32) (g p n k x : Nat) (X Y : Nat → Int32) : Prop :=
  x ≤ k ∧ x ≤ n ∧ (k ≤ n → X = Y) ∧ (∀ i, i < g * 47 + 23 ∨ g * 47 + 23 + k * 3 ≤ i → X i = U i ∧ Y i = U i) ∧ (∀ i, i < g * 47 + 23 + x * 3 → X i = Y i) ∧ (∀ i, g * 47 + 23 + x * 3 ≤ i → i < g * 47 + 23 + (x + (k - n)) * 3 → X i = 0) ∧ (∀ j, j < x → Ek Y g j ∧ Y (g * 47 + 23 + j * 3 + 1) ≠ nI (p + 1) ∧ ∃ i, i < 8 ∧ U (g * 47 + 23 + i * 3 + 1) = Y (g * 47 + 23 + j * 3 + 1)) ∧ ((∀ j, j < k → U (g * 47 + 23 + j * 3 + 1) ≠ nI (p + 1)) → (x = k ∨ (n ≤ k ∧ x = n)) ∧ Y = U)
def Fdr (U V : Nat → Int32) (g p : Nat) : Prop := (∀ i, i < g * 47 + 23 ∨ g * 47 + 47 ≤ i → V i = U i) ∧ Ef V g ∧ (∀ k, k < 8 → V (g * 47 + 23 + k * 3 + 1) ≠ nI (p + 1) ∧ (V (g * 47 + 23 + k * 3 + 1) = 0 ∨ ∃ i, i < 8 ∧ U (g * 47 + 23 + i * 3 + 1) = V (g * 47 + 23 + k * 3 + 1))) ∧ ((∀ k, k < 8 → U (g * 47 + 23 + k * 3 + 1) ≠ nI (p + 1)) → V = U)
theorem pm_move {s : ck_S} {X : Nat → Int32} {g k x : Nat} (hg : g < 24) (hk : k < 8) (hx : x < 8) : fX5_moveEntry (nI (g + 1)) (nI k) (nI x) (ck_set_cells s X) = some (ck_set_cells s (u3 X (g * 47 + 23 + x * 3) (X (g * 47 + 23 + k * 3)) (X (g * 47 + 23 + k * 3 + 1)) (X (g * 47 + 23 + k * 3 + 2)))) := by
  unfold fX5_moveEntry
  rw [pm_ep0 hg hk, Option.bind_some, pm_ep1 hg hk, Option.bind_some, pm_ep2 hg hk, Option.bind_some, pm_putEntry hg hx, Option.bind_some]; rfl
theorem fd_rl {z U : Nat → Int32} {s : ck_S} {r : mk_S} {g p : Nat} {S : ck_S → mk_S → Prop} {Ec : ck_S → Option ck_S} {Em : mk_S → Option mk_S} (hR : Rz z s r) (hU : ∀ i, 1128 ≤ i → U i = ck_cells s i) (hS : Sx U) (hg : g < 24) (hp : p < 24)
    (hE : ∀ V, Fdr U V g p → rl S (Ec (ck_set_cells s V)) (Em (mk_set_all r (mA V z)))) :
    rl S (qp3 FU (fun rec13 (x4 : Int32) (x5 : Int32) (σ6 : ck_S) =>
        if 8 ≤ x5 then (
          (fX5_wipeEntriesFrom (nI (g + 1)) x4 σ6).bind fun σ8 =>
          Ec σ8
          ) else (
          (fX5_entryPart (nI (g + 1)) x5 1 σ6).bind fun v9 =>
          if v9 = nI (p + 1) then (
            rec13 x4 (x5 + 1) σ6
            ) else (
            (fX5_moveEntry (nI (g + 1)) x5 x4 σ6).bind fun σ11 =>
            rec13 (x4 + 1) (x5 + 1) σ11
            )
          )
        ) 0 0 (ck_set_cells s U)) (qp3 FU (fun rec13 (x4 : Int32) (x5 : Int32) (σ6 : mk_S) =>
        if 8 ≤ x5 then (
          (fX8_entryAt (nI (g + 1)) x4).bind fun v8 =>
          (fX8_entryAt (nI (g + 1)) 8).bind fun v9 =>
          (fX8_blank v8 v9 σ6).bind fun σ10 =>
          Em σ10
          ) else (
          (fX8_entryAt (nI (g + 1)) x5).bind fun v11 =>
          (mk_rd_all σ6 v11).bind fun v12 =>
          if v12 = 0 then (
            rec13 x4 (x5 + 1) σ6
            ) else (
            (mk_rd_all σ6 (v11 + 1)).bind fun v14 =>
            if v14 = nI (p + 1) then (
              rec13 x4 (x5 + 1) σ6
              ) else (
              (fX8_entryAt (nI (g + 1)) x4).bind fun v16 =>
              (mk_rd_all σ6 v11).bind fun v17 =>
              (mk_rd_all σ6 (v11 + 1)).bind fun v18 =>
              (mk_rd_all σ6 (v11 + 2)).bind fun v19 =>
              (fX8_put v16 v17 v18 v19 σ6).bind fun σ20 =>
              rec13 (x4 + 1) (x5 + 1) σ20
              )
            )
          )
        ) 0 0 (mk_set_all r (mA U z))) := by
  have p0 : ¬ (0 : Int32) = nI (p + 1) := fun q => nI_ne0 (n := p + 1) (by omega) (by omega) q.symm
  obtain ⟨n, hn8, hn1, hn2⟩ := hS.2.2 g hg
  refine rl3 (fun k xc xk sc xm ym rm => ∃ x X Y, Dq U g p n k x X Y ∧ xc = nI (x + (k - n)) ∧ xm = nI x ∧ xk = nI k ∧ ym = nI k ∧ sc = ck_set_cells s X ∧ rm = mk_set_all r (mA Y z)) (N := 8) (by omega) ⟨0, U, U, ⟨by omega, by omega, fun _ => rfl, fun i _ => ⟨rfl, rfl⟩, fun _ _ => rfl, fun i i1 i2 => absurd i2 (by omega), fun j hj => absurd hj (by omega), fun _ => ⟨Or.inl rfl, rfl⟩⟩, by rw [Nat.zero_sub]; rfl, rfl, rfl, rfl, rfl, rfl⟩ (fun k hk xc xk sc xm ym rm hI rc rmm hn => ?_) (fun xc xk sc xm ym rm hI rc rmm => ?_)
  · obtain ⟨x, X, Y, ⟨d1, d2, d3, d4, d5, d6, d7, d8⟩, rfl, rfl, rfl, rfl, rfl, rfl⟩ := hI
    have hRY : Rz z (ck_set_cells s Y) (mk_set_all r (mA Y z)) := Rz_set hR (fun i hi => by rw [(d4 i (by omega)).2]; exact hU i hi)
    obtain ⟨r0, r1, r2⟩ := rz_ent hRY hg hk
    have y0 : en (ck_set_cells s Y) g k = U (g * 47 + 23 + k * 3) := (d4 _ (by omega)).2
    have y1 : ck_cells (ck_set_cells s Y) (g * 47 + 23 + k * 3 + 1) = U (g * 47 + 23 + k * 3 + 1) := (d4 _ (by omega)).2
    have y2 : ck_cells (ck_set_cells s Y) (g * 47 + 23 + k * 3 + 2) = U (g * 47 + 23 + k * 3 + 2) := (d4 _ (by omega)).2
    have x0 : X (g * 47 + 23 + k * 3) = U (g * 47 + 23 + k * 3) := (d4 _ (by omega)).1
    have x1 : ck_cells (ck_set_cells s X) (g * 47 + 23 + k * 3 + 1) = U (g * 47 + 23 + k * 3 + 1) := (d4 _ (by omega)).1
    have x1b : X (g * 47 + 23 + k * 3 + 1) = U (g * 47 + 23 + k * 3 + 1) := x1
    have x2 : X (g * 47 + 23 + k * 3 + 2) = U (g * 47 + 23 + k * 3 + 2) := (d4 _ (by omega)).1
    rw [if_neg (uge 8 8 k), if_neg (uge 8 8 k), pm_ep1 hg hk, Option.bind_some, pm_entryAt, Option.bind_some, r0, Option.bind_some, x1, y0]
    rcases Nat.lt_or_ge k n with c | c
    · obtain ⟨e0, h, h1, h2, e1, e2⟩ := hn1 k c
      have xy : X = Y := d3 (by omega)
      subst xy
      rw [if_neg e0, r1, Option.bind_some, y1]
      by_cases ce : U (g * 47 + 23 + k * 3 + 1) = nI (p + 1)
      · rw [if_pos ce, if_pos ce, pm_s1]
        refine hn _ _ _ _ _ _ ⟨x, X, X, ⟨by omega, d2, fun _ => rfl, fun i hi => d4 i (by omega), d5, fun i i1 i2 => absurd i2 (by omega), d7, fun q => absurd ce (q k (by omega))⟩, ?_, rfl, rfl, rfl, rfl, rfl⟩
        rw [show k - n = 0 by omega, show k + 1 - n = 0 by omega]
      · rw [if_neg ce, if_neg ce, show x + (k - n) = x by omega, pm_move hg hk (by omega), Option.bind_some, pm_entryAt, Option.bind_some]
        rw [Option.bind_some, Option.bind_some, r2, Option.bind_some, y2, pm_put (by omega), Option.bind_some, x0, x1b, x2, show g * 47 + 70 + x * 3 = g * 47 + 23 + x * 3 + 47 by omega, mw3_u3 (by omega), pm_s1, pm_s1]
        have kd : ∀ y, y < 24 → u3 X (g * 47 + 23 + x * 3) (U (g * 47 + 23 + k * 3)) (U (g * 47 + 23 + k * 3 + 1)) (U (g * 47 + 23 + k * 3 + 2)) (y * 47) = X (y * 47) := fun y hy => u3_ne (by rcases Nat.lt_or_ge g y with q | q <;> omega)
        refine hn _ _ _ _ _ _ ⟨x + 1, _, _, ⟨by omega, by omega, fun _ => rfl, fun i hi => ?_, fun _ _ => rfl, fun i i1 i2 => absurd i2 (by omega), fun j hj => ?_, fun q => ?_⟩, ?_, rfl, rfl, rfl, rfl, rfl⟩
        · rw [u3_ne (by omega)]; exact d4 i (by omega)
        · rcases Nat.lt_or_ge j x with b | b
          · refine ⟨Ek_eq (d7 j b).1 (u3_ne (by omega)) (u3_ne (by omega)) kd, ?_⟩
            rw [u3_ne (by omega)]; exact (d7 j b).2
          · rw [show j = x by omega]
            refine ⟨⟨?_, h, h1, h2, ?_, ?_⟩, ?_, k, hk, ?_⟩
            · rw [u3_at, if_neg (by omega), if_neg (by omega), if_pos rfl]; exact e0
            · rw [u3_at, if_neg (by omega), if_pos rfl]; exact e1
            · rw [kd h h2, (d4 (h * 47) (by rcases Nat.lt_or_ge g h with q | q <;> omega)).1]; exact e2
            · rw [u3_at, if_neg (by omega), if_pos rfl]; exact ce
            · rw [u3_at, if_neg (by omega), if_pos rfl]
        · obtain ⟨a1, a2⟩ := d8 (fun j hj => q j (by omega))
          have a3 : x = k := by omega
          refine ⟨Or.inl (by omega), ?_⟩
          rw [a3, a2]; exact u3_id
        · rw [show k + 1 - n = 0 by omega]
    · obtain ⟨e0, e1, e2⟩ := hn2 k c hk
      rw [if_pos e0, e1, if_neg p0, pm_move hg hk (by omega), Option.bind_some, x0, x1b, x2, e0, e1, e2, pm_s1, pm_s1]
      refine hn _ _ _ _ _ _ ⟨x, _, Y, ⟨by omega, d2, fun q => absurd q (by omega), fun i hi => ⟨?_, (d4 i (by omega)).2⟩, fun i hi => ?_, fun i i1 i2 => ?_, d7, fun q => ?_⟩, ?_, rfl, rfl, rfl, rfl, rfl⟩
      · rw [u3_ne (by omega)]; exact (d4 i (by omega)).1
      · rw [u3_ne (by omega)]; exact d5 i hi
      · rw [u3_at]
        by_cases a : i = g * 47 + 23 + (x + (k - n)) * 3 + 2
        · rw [if_pos a]
        rw [if_neg a]
        by_cases b : i = g * 47 + 23 + (x + (k - n)) * 3 + 1
        · rw [if_pos b]
        rw [if_neg b]
        by_cases d : i = g * 47 + 23 + (x + (k - n)) * 3
        · rw [if_pos d]
        rw [if_neg d]
        exact d6 i i1 (by omega)
      · obtain ⟨a1, a2⟩ := d8 (fun j hj => q j (by omega))
        exact ⟨Or.inr ⟨by omega, by omega⟩, a2⟩
      · rw [show x + (k + 1 - n) = x + (k - n) + 1 by omega]
  · obtain ⟨x, X, Y, ⟨d1, d2, d3, d4, d5, d6, d7, d8⟩, rfl, rfl, rfl, rfl, rfl, rfl⟩ := hI
    rw [if_pos (ule 8 8 8), if_pos (ule 8 8 8), pm_wef hg (by omega), Option.bind_some, pm_entryAt, Option.bind_some, show fX8_entryAt (nI (g + 1)) 8 = _ from pm_entryAt (k := 8), Option.bind_some, pm_mbl (by omega) (by omega), Option.bind_some]
    have eX : cz (ck_set_cells s X) (g * 47 + 23 + (x + (8 - n)) * 3) (g * 47 + 47) = ck_set_cells s (wz Y (g * 47 + 23 + x * 3) (g * 47 + 47)) := by
      show ck_set_cells s (wz X (g * 47 + 23 + (x + (8 - n)) * 3) (g * 47 + 47)) = _
      refine congrArg (ck_set_cells s) (funext fun i => ?_)
      by_cases a : g * 47 + 23 + x * 3 ≤ i ∧ i < g * 47 + 47
      · rw [wz_in a.1 a.2]
        by_cases b : g * 47 + 23 + (x + (8 - n)) * 3 ≤ i
        · rw [wz_in b a.2]
        · rw [wz_out (by omega)]; exact d6 i a.1 (by omega)
      · rw [wz_out (by omega), wz_out (by omega)]
        rcases Nat.lt_or_ge i (g * 47 + 23 + x * 3) with b | b
        · exact d5 i b
        · rw [(d4 i (by omega)).1, (d4 i (by omega)).2]
    have eY : mz (mk_set_all r (mA Y z)) (g * 47 + 70 + x * 3) (g * 47 + 70 + 8 * 3) = mk_set_all r (mA (wz Y (g * 47 + 23 + x * 3) (g * 47 + 47)) z) := by
      show mk_set_all r (wz (mA Y z) (g * 47 + 70 + x * 3) (g * 47 + 70 + 8 * 3)) = _
      rw [show g * 47 + 70 + x * 3 = g * 47 + 23 + x * 3 + 47 by omega, show g * 47 + 70 + 8 * 3 = g * 47 + 47 + 47 by omega, mA_wz (by omega)]
    rw [eX, eY]
    refine hE _ ⟨fun i hi => ?_, ⟨x, by omega, fun j hj => ?_, fun j j1 j2 => ⟨?_, ?_, ?_⟩⟩, fun k hk => ?_, fun q => ?_⟩
    · rw [wz_out (by omega)]; exact (d4 i (by omega)).2
    · exact Ek_eq (d7 j hj).1 (wz_out (by omega)) (wz_out (by omega)) (fun y hy => wz_out (by rcases Nat.lt_or_ge g y with q | q <;> omega))
    · rw [wz_in (by omega) (by omega)]
    · rw [wz_in (by omega) (by omega)]
    · rw [wz_in (by omega) (by omega)]
    · rcases Nat.lt_or_ge k x with b | b
      · rw [wz_out (by omega)]; exact ⟨(d7 k b).2.1, Or.inr (d7 k b).2.2⟩
      · rw [wz_in (by omega) (by omega)]; exact ⟨p0, Or.inl rfl⟩
    · obtain ⟨a1, a2⟩ := d8 q
      have a3 : x = n := by omega
      rw [a2, a3]
      funext i
      by_cases b : g * 47 + 23 + n * 3 ≤ i ∧ i < g * 47 + 47
      · rw [wz_in b.1 b.2]
        have e := hn2 ((i - (g * 47 + 23)) / 3) (by omega) (by omega)
        rcases (show (i - (g * 47 + 23)) % 3 = 0 ∨ (i - (g * 47 + 23)) % 3 = 1 ∨ (i - (g * 47 + 23)) % 3 = 2 by omega) with m | m | m
        · rw [← e.1]; exact congrArg U (by omega)
        · rw [← e.2.1]; exact congrArg U (by omega)
        · rw [← e.2.2]; exact congrArg U (by omega)
      · rw [wz_out (by omega)]
theorem Sx_fd {U V : Nat → Int32} {g p : Nat} (hS : Sx U) (h : Fdr U V g p) (hg : g < 24) (hp : p < 24) : Sx V := by
  obtain ⟨f1, f2, f3, f4⟩ := h
  have p0 : ¬ (0 : Int32) = nI (p + 1) := fun q => nI_ne0 (n := p + 1) (by omega) (by omega) q.symm
  have kd : ∀ y, y < 24 → V (y * 47) = U (y * 47) := fun y hy => f1 _ (by rcases Nat.lt_or_ge g y with q | q <;> omega)
  refine ⟨fun y hy => ?_, (kd 0 (by omega)).trans hS.2.1, fun y hy => ?_⟩
  · by_cases c : y = g
    · subst c
      by_cases c2 : U (y * 47) = 2
      · obtain ⟨o1, o2, o3, o4⟩ := hS.1 y hy
        refine ⟨by rw [kd y hy]; exact o1, fun e => ?_, fun e => ?_, fun k hk => Vk_eq (o4 k hk) (f1 _ (by omega)) (f1 _ (by omega))⟩
        · rw [kd y hy, c2] at e; exact absurd e (by decide)
        · rw [kd y hy] at e; exact absurd c2 e
      · rw [f4 (fun k hk q => p0 ((Sx_nf hS hy hk c2).2.1.symm.trans q))]
        exact hS.1 y hy
    · exact Ok1_eq (hS.1 y hy) (fun i i1 i2 => f1 i (by omega))
  · by_cases c : y = g
    · subst c; exact f2
    · exact Ef_eq (hS.2.2 y hy) (fun i i1 i2 => f1 i (by omega)) kd
/-- all entries for p are gone -/
def Dp (T V : Nat → Int32) (p : Nat) : Prop := Sx V ∧ (∀ i, 1128 ≤ i → V i = T i) ∧ (∀ g, g < 24 → ∀ w, w < 23 → V (g * 47 + w) = T (g * 47 + w)) ∧ (∀ g, g < 24 → ∀ k, k < 8 → V (g * 47 + 23 + k * 3 + 1) ≠ nI (p + 1) ∧ (V (g * 47 + 23 + k * 3 + 1) = 0 ∨ ∃ i, i < 8 ∧ T (g * 47 + 23 + i * 3 + 1) = V (g * 47 + 23 + k * 3 + 1))) ∧ ∀ g, g < 24 → (∀ k, k < 8 → T (g * 47 + 23 + k * 3 + 1) ≠ nI (p + 1)) → ∀ i, g * 47 ≤ i → i < g * 47 + 47 → V i = T i
theorem drop_rl {z : Nat → Int32} {s : ck_S} {r : mk_S} {p : Nat} (hR : Rz z s r) (hS : Sx (ck_cells s)) (hp : p < 24) : rl (fun s1 r1 => ∃ V, s1 = ck_set_cells s V ∧ r1 = mk_set_all r (mA V z) ∧ Dp (ck_cells s) V p) (fX5_dropEntriesFor (nI (p + 1)) s) (fX8_dropEntries (nI (p + 1)) r) := by
  unfold fX5_dropEntriesFor fX8_dropEntries
  refine rl2 (fun k x s1 y r1 => x = nI (k + 1) ∧ y = nI (k + 1) ∧ ∃ V, s1 = ck_set_cells s V ∧ r1 = mk_set_all r (mA V z) ∧ Sx V ∧ (∀ i, k * 47 ≤ i → V i = ck_cells s i) ∧ (∀ g, g < 24 → ∀ w, w < 23 → V (g * 47 + w) = ck_cells s (g * 47 + w)) ∧ (∀ g, g < k → ∀ k, k < 8 → V (g * 47 + 23 + k * 3 + 1) ≠ nI (p + 1) ∧ (V (g * 47 + 23 + k * 3 + 1) = 0 ∨ ∃ i, i < 8 ∧ ck_cells s (g * 47 + 23 + i * 3 + 1) = V (g * 47 + 23 + k * 3 + 1))) ∧ ∀ g, g < k → (∀ k, k < 8 → ck_cells s (g * 47 + 23 + k * 3 + 1) ≠ nI (p + 1)) → ∀ i, g * 47 ≤ i → i < g * 47 + 47 → V i = ck_cells s i) (N := 24) (by omega) ⟨rfl, rfl, ck_cells s, rfl, ?_, hS, fun _ _ => rfl, fun _ _ _ _ => rfl, fun g hg => absurd hg (by omega), fun g hg => absurd hg (by omega)⟩ (fun k hk x s1 y r1 hI rc rm hn => ?_) (fun x s1 y r1 hI rc rm => ?_)
  · rw [← hR.1]; rfl
  · obtain ⟨rfl, rfl, V, rfl, rfl, hV, v1, v2, v3, v4⟩ := hI
    rw [if_neg (pm_f2 hk), if_neg (pm_f2 hk)]
    refine fd_rl hR (fun i hi => v1 i (by omega)) hV hk hp (fun W hW => ?_)
    rw [pm_s1]
    obtain ⟨w1, w2, w3, w4⟩ := hW
    refine hn _ _ _ _ ⟨rfl, rfl, W, rfl, rfl, Sx_fd hV ⟨w1, w2, w3, w4⟩ hk hp, fun i hi => ?_, fun g hg w hw => ?_, fun g hg j hj => ?_, fun g hg q i i1 i2 => ?_⟩
    · rw [w1 i (by omega)]; exact v1 i (by omega)
    · rw [w1 _ (by rcases Nat.lt_or_ge k g with q | q <;> omega)]; exact v2 g hg w hw
    · rcases Nat.lt_or_ge g k with c | c
      · rw [w1 _ (by omega)]; exact v3 g c j hj
      · have e : g = k := by omega
        subst e
        refine ⟨(w3 j hj).1, (w3 j hj).2.imp id ?_⟩
        rintro ⟨i, i1, i2⟩
        exact ⟨i, i1, by rw [← i2, v1 _ (by omega)]⟩
    · rcases Nat.lt_or_ge g k with c | c
      · rw [w1 _ (by omega)]; exact v4 g c q i i1 i2
      · have e : g = k := by omega
        subst e
        rw [w4 (fun j hj => by rw [v1 _ (by omega)]; exact q j hj)]
        exact v1 i (by omega)
  · obtain ⟨rfl, rfl, V, rfl, rfl, hV, v1, v2, v3, v4⟩ := hI
    rw [if_pos (ult 24 24 (24 + 1)), if_pos (ult 24 24 (24 + 1))]
    exact rl_ret ⟨V, rfl, rfl, hV, fun i hi => v1 i (by omega), v2, v3, v4⟩
