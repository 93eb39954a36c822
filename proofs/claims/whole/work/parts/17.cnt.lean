/-! COUNTERS NEVER FALL; what a method promises -/
theorem mm_s1_len (i : Nat) (v : Value) (ls : List Value) : (mm_s1 i v ls).length = ls.length := by simp [mm_s1, mm_kill_len]
theorem mm_s2_len (i : Nat) (v : Value) (ls : List Value) : (mm_s2 i v ls).length = ls.length := by simp [mm_s2, mm_kill_len]
def mm_le (μ μ' : mm_M) : Prop := μ.2.2.2.2.1 ≤ μ'.2.2.2.2.1 ∧ μ.2.2.2.2.2 ≤ μ'.2.2.2.2.2 ∧ μ.2.2.2.1.length ≤ μ'.2.2.2.1.length ∧ (μ.2.2.2.1.length ≤ 1000 → μ'.2.2.2.1.length ≤ 1000)
theorem mm_le.rf {μ : mm_M} : mm_le μ μ := ⟨Nat.le_refl _, Nat.le_refl _, Nat.le_refl _, id⟩
theorem mm_le.tr {μ μ1 μ2 : mm_M} (h : mm_le μ μ1) (h' : mm_le μ1 μ2) : mm_le μ μ2 := ⟨Nat.le_trans h.1 h'.1, Nat.le_trans h.2.1 h'.2.1, Nat.le_trans h.2.2.1 h'.2.2.1, fun z => h'.2.2.2 (h.2.2.2 z)⟩
set_option maxHeartbeats 4000000 in
theorem mm_one_le {G : mm_G} {x : mm_I} {ls st ls' st' : List Value} {μ μ' : mm_M} (h : mm_one G x ls st μ = some (ls', st', μ')) : mm_le μ μ' ∧ ls'.length = ls.length := by
  obtain ⟨i, x1, x2, x3, x4⟩ := x
  cases i <;> simp only [mm_one] at h <;> (repeat' split at h) <;> first
    | (cases h; done)
    | (cases h; exact ⟨mm_le.rf, rfl⟩)
    | (cases h; exact ⟨mm_le.rf, mm_s1_len _ _ _⟩)
    | (cases h; exact ⟨mm_le.rf, mm_s2_len _ _ _⟩)
    | (cases h; refine ⟨⟨?_, ?_, ?_, ?_⟩, rfl⟩ <;> simp <;> omega)
theorem mm_run_le (G : mm_G) : ∀ (n d k : Nat) (is : List mm_I) (ls st : List Value) (μ : mm_M) (r : mm_R), mm_run G n d k is ls st μ = some r → mm_le μ r.2 := by
  intro n
  induction n with
  | zero => intro d k is ls st μ r h; simp [mm_run] at h
  | succ n ih =>
    intro d k is ls st μ r h
    cases is with
    | nil => simp [mm_run] at h
    | cons x is =>
      simp only [mm_run] at h
      cases h1 : mm_one G x ls st μ with
      | some q => rw [h1] at h; obtain ⟨a, b, c⟩ := q; exact (mm_one_le h1).1.tr (ih _ _ _ _ _ _ _ h)
      | none =>
        rw [h1] at h
        simp only at h
        cases h2 : mm_jmp x st with
        | some q =>
          rw [h2] at h
          obtain ⟨o, b⟩ := q
          cases o with
          | none => exact ih _ _ _ _ _ _ _ h
          | some t => exact ih _ _ _ _ _ _ _ h
        | none =>
          rw [h2] at h
          simp only at h
          cases h3 : mm_ret (mm_rk k) x st with
          | some q => rw [h3] at h; cases h; exact mm_le.rf
          | none =>
            rw [h3] at h
            simp only at h
            cases h4 : mm_thr x st with
            | some q => rw [h4] at h; cases h; exact ⟨by simp, by simp, Nat.le_refl _, id⟩
            | none =>
              rw [h4] at h
              simp only at h
              cases h5 : mm_call x st μ with
              | none => rw [h5] at h; simp at h
              | some q =>
                rw [h5] at h
                obtain ⟨kk, args, rest⟩ := q
                simp only at h
                cases d with
                | zero => simp at h
                | succ d =>
                  simp only at h
                  cases h6 : mm_run G n d kk (mm_blk kk 0) (mm_ent (mm_mx kk) args) [] μ with
                  | none => rw [h6] at h; simp at h
                  | some q =>
                    rw [h6] at h
                    have hle := ih _ _ _ _ _ _ _ h6
                    obtain ⟨o, μ1⟩ := q
                    cases o with
                    | inl v =>
                      simp only at h
                      split at h
                      · exact hle.tr (ih _ _ _ _ _ _ _ h)
                      · cases h
                    | inr E =>
                      simp only at h
                      split at h
                      · split at h
                        · split at h
                          · cases h; exact hle
                          · cases h
                        · split at h
                          · split at h
                            · exact hle.tr (ih _ _ _ _ _ _ _ h)
                            · cases h
                          · cases h
                      · cases h
/-! ===== what a method promises ===== -/
def mm_rm (d mc ms : Nat) : Room := { frames := d + 9, cells := mc, slots := ms, locals := 120 * d + 600 }
def mm_Wk (k : Nat) : List Cond := mm_cwd k :: mm_TB
def mm_Pc (D : va_G) (kA : Nat → ClassId) (σ : Nat → Nat) (G : mm_G) (μ : mm_M) (sz : Nat) (av : List Value) : Array Value → State → Prop := fun v U =>
  v = (av.map (mm_tr σ)).toArray ∧ U.heap.size = sz ∧ va_P D vwCl (mm_wld σ kA μ) U.heap ∧ va_K D vwCl (mm_tys kA) U ∧ va_D (fun _ => True) (mm_wld σ kA μ) ∧ mm_Ev σ G (va_A (mm_wld σ kA μ) sz) U U.heap ∧ μ.2.2.2.1.length ≤ 1000
def mm_Qc (D : va_G) (kA : Nat → ClassId) (σ : Nat → Nat) (μ : mm_M) (A : Nat → Prop) (res : mm_R) : Array Value → State → Outcome → State → Prop := fun _ st o t =>
  ∃ (v : Option Value) (σ' : Nat → Nat), res.1 = .inl v ∧ mm_ag μ.2.2.2.1.length res.2.2.2.2.1.length σ σ' ∧ o = .returned (v.map (mm_tr σ')) ∧ va_P D vwCl (mm_wld σ' kA res.2) t.heap ∧ va_D A (mm_wld σ' kA res.2) ∧ va_F A st t
def mm_XC (D : va_G) (kA : Nat → ClassId) (σ : Nat → Nat) (μ : mm_M) (A : Nat → Prop) (res : mm_R) : String → State → State → Prop := fun En st t =>
  ∃ (E : Nat) (σ' : Nat → Nat), res.1 = .inr E ∧ E < 2 ∧ En = mm_EN E ∧ mm_ag μ.2.2.2.1.length res.2.2.2.2.1.length σ σ' ∧ va_P D vwCl (mm_wld σ' kA res.2) t.heap ∧ va_D A (mm_wld σ' kA res.2) ∧ va_F A st t
def mm_Snd (G : mm_G) (n : Nat) : Prop := ∀ (d k : Nat) (av : List Value) (μ : mm_M) (res : mm_R), k < 279 → (mm_ent1 av).length ≤ mm_mx k → mm_run G n d k (mm_blk k 0) (mm_ent (mm_mx k) av) [] μ = some res →
  ∀ (l : Launch) (D : va_G) (kA : Nat → ClassId) (σ : Nat → Nat) (sz : Nat), l.stackTraces = false →
    vx_Met l (mm_y k) (mm_Wk k) (mm_rm d (res.2.2.2.2.2.1 - μ.2.2.2.2.1) (res.2.2.2.2.2.2 - μ.2.2.2.2.2)) (mm_Pc D kA σ G μ sz av) (mm_Qc D kA σ μ (va_A (mm_wld σ kA μ) sz) res) (mm_XC D kA σ μ (va_A (mm_wld σ kA μ) sz) res) (res.2.2.2.2.2.1 - μ.2.2.2.2.1) (res.2.2.2.2.2.2 - μ.2.2.2.2.2) (va_A (mm_wld σ kA μ) sz)
theorem mm_Pc_blind {D : va_G} {kA : Nat → ClassId} {σ : Nat → Nat} {G : mm_G} {μ : mm_M} {sz : Nat} {av : List Value} : FrameBlind (mm_Pc D kA σ G μ sz av) := fun a U g mk h => by
  obtain ⟨h1, h2, h3, h4, h5, h6, h7⟩ := h
  exact ⟨h1, h2, h3, va_K.moved (u := U) (U := U.calling g mk a) (Vm.Alike.refl U.vm) h4, h5, mm_Ev.same (u := U) (U := U.calling g mk a) rfl h6, h7⟩
theorem mm_toMet {l : Launch} {y : MethodName} {ws : List Cond} {rm : Room} {Pc : Array Value → State → Prop} {Qc : Array Value → State → Outcome → State → Prop} {XC : String → State → State → Prop} {mc ms : Nat} {free : Addr → Prop} (h : vx_Met l y ws rm Pc Qc XC mc ms free) (hX : ∀ E st t, ¬ XC E st t) : Met l y ws rm Pc Qc mc ms free :=
  MetFree.mono h (fun _ _ h => h) (fun _ _ _ _ _ h => h) (fun a st o t _ hq => by
    rcases hq with hq | ⟨q, -, E, ce, L, hx, -⟩
    · exact hq
    · exact absurd hx (hX _ _ _))
/-- a call that returned, or threw -/
theorem mm_vxOf {p : Program} {l : Launch} {e : Env} {R : Room} {s : State} {m : MethodId} {args : Array Value} {below : List Frame} {meth : Method} {c : Code} {H : Heap} {locs : List Loc} {cells slots mc ms : Nat} {g : JFrame} {rest : List Value} {Qa : State → Outcome → State → Prop} {XC : String → State → State → Prop} {free : Addr → Prop}
    (h : va_Run p l e R s m args below meth c H locs cells slots mc ms g rest Qa free) : vx_Run p l e R s m args below meth c H locs cells slots mc ms g rest Qa XC free := fun T hT X => Or.inl (h T hT X)
