theorem nm_bv (x : BitVec 64) (s : Nat) (hs : s + 8 ≤ 64) : BitVec.signExtend 32 (x >>> s) &&& 255#32 = BitVec.signExtend 32 (x.sshiftRight s) &&& 255#32 := by
  apply BitVec.eq_of_getLsbD_eq
  intro i hi
  rw [BitVec.getLsbD_and, BitVec.getLsbD_and]
  by_cases h : i < 8
  · have e1 : i < 64 := by omega
    have e2 : s + i < 64 := by omega
    have q1 : (BitVec.signExtend 32 (x >>> s)).getLsbD i = x.getLsbD (s + i) := by
      rw [BitVec.getLsbD_signExtend, BitVec.getLsbD_ushiftRight]; simp only [hi, e1, decide_true, Bool.true_and, if_true]
    have q2 : (BitVec.signExtend 32 (x.sshiftRight s)).getLsbD i = x.getLsbD (s + i) := by
      rw [BitVec.getLsbD_signExtend, BitVec.getLsbD_sshiftRight]
      have e3 : ¬ 64 ≤ i := by omega
      simp only [hi, e1, e2, e3, decide_true, decide_false, Bool.not_false, Bool.true_and, if_true]
    rw [q1, q2]
  · have e : ∀ j, j < 32 → ¬ j < 8 → (255#32).getLsbD j = false := by decide
    rw [e i hi h, Bool.and_false, Bool.and_false]
theorem nm_k {p : Int64} {k s : Nat} {a : UInt64} {b : Int64} (h1 : ((8 * nI k).toInt64.toUInt64 &&& Int64.toUInt64 63) = a) (h2 : ((8 * nI k).toInt64 &&& 63) = b) (ha : ((p.toUInt64 >>> a).toInt64.toInt32 &&& 255).toBitVec = BitVec.signExtend 32 (p.toBitVec >>> s) &&& 255#32) (hb : (((p >>> b) &&& (255 : Int64)).toInt32).toBitVec = BitVec.signExtend 32 (p.toBitVec.sshiftRight s) &&& 255#32) (hs : s + 8 ≤ 64) : ((((p.toUInt64 >>> ((8 * nI k).toInt64.toUInt64 &&& Int64.toUInt64 63)).toInt64).toInt32) &&& 255) = (((p >>> ((8 * nI k).toInt64 &&& 63)) &&& ((255 : Int64))).toInt32) := by
  rw [h1, h2]
  apply Int32.toBitVec_inj.mp
  rw [ha, hb]
  exact nm_bv _ s hs
theorem nm_eq {p : Int64} {k : Nat} (hk : k < 8) : ((((p.toUInt64 >>> ((8 * nI k).toInt64.toUInt64 &&& Int64.toUInt64 63)).toInt64).toInt32) &&& 255) = (((p >>> ((8 * nI k).toInt64 &&& 63)) &&& ((255 : Int64))).toInt32) := by
  rcases (show k = 0 ∨ k = 1 ∨ k = 2 ∨ k = 3 ∨ k = 4 ∨ k = 5 ∨ k = 6 ∨ k = 7 by omega) with rfl | rfl | rfl | rfl | rfl | rfl | rfl | rfl
  · exact nm_k (s := 0) (a := 0) (b := 0) (by decide) (by decide) (by simp) (by simp) (by omega)
  · exact nm_k (s := 8) (a := 8) (b := 8) (by decide) (by decide) (by simp) (by simp) (by omega)
  · exact nm_k (s := 16) (a := 16) (b := 16) (by decide) (by decide) (by simp) (by simp) (by omega)
  · exact nm_k (s := 24) (a := 24) (b := 24) (by decide) (by decide) (by simp) (by simp) (by omega)
  · exact nm_k (s := 32) (a := 32) (b := 32) (by decide) (by decide) (by simp) (by simp) (by omega)
  · exact nm_k (s := 40) (a := 40) (b := 40) (by decide) (by decide) (by simp) (by simp) (by omega)
  · exact nm_k (s := 48) (a := 48) (b := 48) (by decide) (by decide) (by simp) (by simp) (by omega)
  · exact nm_k (s := 56) (a := 56) (b := 56) (by decide) (by decide) (by simp) (by simp) (by omega)
