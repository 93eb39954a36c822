theorem q_sh (v : Int32) {k : Nat} (hk : k = 0 ∨ k = 8 ∨ k = 16 ∨ k = 24) : (v >>> (vb_i k &&& 31)) &&& vb_i 255 = q_b1 v k := by
  rw [q_b1]
  refine vb_ext (fun j hj => ?_)
  rw [vb_has_and, vb_has_and]
  have h8 : 8 ≤ j → vb_has (vb_i 255) j = false := by
    intro h
    have e : ∀ j : Fin 32, 8 ≤ j.val → vb_has (vb_i 255) j.val = false := by decide
    exact e ⟨j, hj⟩ h
  by_cases h : 8 ≤ j
  · rw [h8 h, Bool.and_false, Bool.and_false]
  · congr 1
    have hk32 : k < 32 := by omega
    have hjk : k + j < 32 := by omega
    have e1 : vb_has (v >>> (vb_i k &&& 31)) j = v.toBitVec.getLsbD (k + j) := by
      simp only [vb_has, Int32.toBitVec_shiftRight]
      rw [BitVec.sshiftRight_eq']
      have := vb_sh hk32
      rw [show ((vb_i k &&& 31 : Int32).toBitVec.smod 32).toNat = k from this, BitVec.getLsbD_sshiftRight]
      simp [hjk]
      omega
    have e2 : (v.toUInt32 >>> ((vb_i k).toUInt32 &&& Int32.toUInt32 31)).toInt32.toBitVec = v.toBitVec >>> k := by
      rcases hk with rfl | rfl | rfl | rfl <;> rfl
    rw [e1]
    simp only [vb_has]
    rw [e2, BitVec.getLsbD_ushiftRight]
