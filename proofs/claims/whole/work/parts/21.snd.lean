/-! EVERY METHOD KEEPS ITS PROMISE: soundness of the small machine -/
theorem mm_rk_rt {k : Nat} (h : k < 280) : mm_rkOk (mm_rk k) (mm_rt k) = true := by
  have h1 := mm_mAll h
  simp only [mm_mok, Bool.and_eq_true, decide_eq_true_eq] at h1
  exact h1.1.1.1.1.2
section EN
variable {p : Program} {l : Launch} {e : Env} {R : Room} {s : State} {m : MethodId} {args : Array Value} {below : List Frame} {meth : Method} {c : Code} {H : Heap} {locs : List Loc} {cells slots : Nat}
variable {cc : ByteArray} {pc : Nat} {lj : Array Slot} {σ : Nat → Nat} {Qc : Array Value → State → Outcome → State → Prop} {free : Addr → Prop}
theorem mm_retW {rk : Nat} {rt : Option FieldType} {x : mm_I} {st : List Value} {v : Option Value} (hx : p.tables.exec = Jvm.exec) (hb : c.code = cc) (hlk : meth.locks = false) (hr : meth.sig.returnType = rt) (hrk : mm_rkOk rk rt = true) (h : mm_ret rk x st = some v) (hd : decode cc pc = .ok (x.1, 1))
    (hq : ∀ t : State, t.heap = H → s.WarmedH t.vm → Qc args s (.returned (v.map (mm_tr σ))) t) (hf : ∀ q ∈ locs, free q.base) : W p l e R s m args below meth c H locs cells slots (MQ below Qc args s cells slots free) (F0 m pc lj (st.map (mm_tr σ))) := by
  obtain ⟨i, x1, x2, x3, x4⟩ := x
  cases i <;> (first | (exfalso; simp only [mm_ret] at h; cases h; done) | skip)
  case return_ =>
    simp only [mm_ret] at h
    split at h
    · split at h
      · rename_i h0
        cases h
        subst h0
        have : rt = none := by
          unfold mm_rkOk at hrk
          split at hrk <;> simp_all
        exact W.vret hx hb (hr.trans this) hq hf hd hlk
      · cases h
    · cases h
  case ireturn =>
    simp only [mm_ret] at h
    split at h
    · rename_i v0
      split at h
      · rename_i h0
        cases h
        rcases h0 with rfl | ⟨rfl, h0⟩
        · have : rt = some .int := by
            unfold mm_rkOk at hrk
            split at hrk <;> simp_all
          exact W.iret (v := v0) hx hb (hr.trans this) hq hf hd hlk
        · have : rt = some .boolean := by
            unfold mm_rkOk at hrk
            split at hrk <;> simp_all
          exact W.zret (v := v0) hx hb (hr.trans this) (by rcases h0 with rfl | rfl <;> rfl) hq hf hd hlk
      · cases h
    · cases h
  case lreturn =>
    simp only [mm_ret] at h
    split at h
    · rename_i v0
      split at h
      · rename_i h0
        cases h
        subst h0
        have : rt = some .long := by
          unfold mm_rkOk at hrk
          split at hrk <;> simp_all
        exact W.lret (v := v0) hx hb (hr.trans this) hq hf hd hlk
      · cases h
    · cases h
  case areturn =>
    simp only [mm_ret] at h
    split at h
    · rename_i v0
      split at h
      · rename_i h0
        cases h
        subst h0
        have : ∃ nm, rt = some (.object nm) := by
          unfold mm_rkOk at hrk
          split at hrk <;> simp_all
        obtain ⟨nm, this⟩ := this
        exact W.aret (v := .ref (σ v0)) hx hb (hr.trans this) (Or.inl ⟨nm, rfl⟩) (Or.inr ⟨_, rfl⟩) hq hf hd hlk
      · cases h
    · cases h
end EN
