theorem mm_all_ent1 {R : Nat → Bool} : ∀ {av : List Value}, av.all (mm_okR R) = true → (mm_ent1 av).all (mm_okR R) = true
  | [], _ => rfl
  | v :: vs, h => by
    simp only [List.all_cons, Bool.and_eq_true] at h
    have ih := mm_all_ent1 h.2
    simp only [mm_ent1]
    split
    · simp only [List.all_cons, Bool.and_eq_true]; exact ⟨h.1, rfl, ih⟩
    · simp only [List.all_cons, Bool.and_eq_true]; exact ⟨h.1, ih⟩
theorem mm_all_ent {R : Nat → Bool} {av : List Value} (mx : Nat) (h : av.all (mm_okR R) = true) : (mm_ent mx av).all (mm_okR R) = true := by
  rw [mm_ent, List.all_append, Bool.and_eq_true]
  refine ⟨mm_all_ent1 h, List.all_eq_true.mpr (fun w hw => ?_)⟩
  rw [List.eq_of_mem_replicate hw]; rfl
theorem mm_jmp_cf {R : Nat → Bool} {x : mm_I} {st st' : List Value} {o : Option Nat} (h : mm_jmp x st = some (o, st')) (hs : st.all (mm_okR R) = true) : st'.all (mm_okR R) = true := by
  obtain ⟨i, x1, x2, x3, x4⟩ := x
  cases i <;> simp only [mm_jmp] at h <;> (repeat' split at h) <;> first
    | (cases h; done)
    | (cases h
       try simp only [List.all_cons, Bool.and_eq_true] at hs
       first
         | exact hs
         | exact hs.2
         | exact hs.2.2)
theorem mm_ret_cf {R : Nat → Bool} {rk : Nat} {x : mm_I} {st : List Value} {v : Option Value} (h : mm_ret rk x st = some v) (hs : st.all (mm_okR R) = true) : v.toList.all (mm_okR R) = true := by
  obtain ⟨i, x1, x2, x3, x4⟩ := x
  cases i <;> simp only [mm_ret] at h <;> (repeat' split at h) <;> first
    | (cases h; done)
    | (cases h; first | rfl | exact hs)
theorem mm_call_cf {R K : Nat → Bool} {x : mm_I} {st av rest : List Value} {μ : mm_M} {kk : Nat} (hx : mm_cf K x = true) (h : mm_call x st μ = some (kk, av, rest)) (hs : st.all (mm_okR R) = true) : K kk = true ∧ av.all (mm_okR R) = true ∧ rest.all (mm_okR R) = true := by
  have h1 : ∀ n, ((st.take n).reverse).all (mm_okR R) = true := fun n => List.all_eq_true.mpr (fun w hw => List.all_eq_true.mp hs w (List.mem_of_mem_take (List.mem_reverse.mp hw)))
  have h2 : ∀ n, (st.drop n).all (mm_okR R) = true := fun n => List.all_eq_true.mpr (fun w hw => List.all_eq_true.mp hs w (List.mem_of_mem_drop hw))
  obtain ⟨i, x1, x2, x3, x4⟩ := x
  have hk : ∀ {a : Nat}, a < 9000 → (decide (9000 ≤ a) || K a) = true → K a = true := fun {a} ha h => by
    rw [decide_eq_false (by omega), Bool.false_or] at h; exact h
  cases i <;> simp only [mm_call] at h <;> (repeat' split at h) <;> first
    | (cases h; done)
    | (cases h
       simp only [mm_cf] at hx
       refine ⟨hk (by rename_i h9 _ _ _ _ _ _ _ _; exact h9.1) hx, ?_, h2 _⟩
       have := h1 x2
       simp_all)
    | (cases h
       simp only [mm_cf] at hx
       refine ⟨hk (by simp_all) hx, ?_, h2 _⟩
       have := h1 x2
       simp_all)
theorem mm_ast_cf {K : Nat → Bool} {is is2 : List mm_I} {i : Nat} (h : mm_ast is = some (i, is2)) (ha : is.all (mm_cf K) = true) : is2.all (mm_cf K) = true := by
  cases is with
  | nil => cases h
  | cons x r =>
    simp only [List.all_cons, Bool.and_eq_true] at ha
    simp only [mm_ast] at h
    split at h
    · cases h; exact ha.2
    · cases h; exact ha.2
    · cases h
set_option maxHeartbeats 4000000 in
theorem mm_run_cf (G : mm_G) {R K : Nat → Bool} (hK : ∀ k, K k = true → ∀ pc, (mm_blk k pc).all (mm_cf K) = true) : ∀ (n d k : Nat) (is : List mm_I) (ls st : List Value) (μ : mm_M) (r : mm_R), mm_run G n d k is ls st μ = some r → K k = true → is.all (mm_cf K) = true → ls.all (mm_okR R) = true → st.all (mm_okR R) = true → mm_cfP R μ.2.1 → μ.2.2.2.1.length ≤ 1000 → mm_fr R μ r.2 ∧ ∀ v, r.1 = .inl v → v.toList.all (mm_okR R) = true := by
  intro n
  induction n with
  | zero => intro d k is ls st μ r h; simp [mm_run] at h
  | succ n ih =>
    intro d k is ls st μ r h hk hi hl hs hP hS
    cases is with
    | nil => simp [mm_run] at h
    | cons x is =>
      simp only [mm_run] at h
      simp only [List.all_cons, Bool.and_eq_true] at hi
      cases h1 : mm_one G x ls st μ with
      | some q =>
        rw [h1] at h
        obtain ⟨a, b, c⟩ := q
        have h2 := mm_one_cf hi.1 h1 hl hs hP hS
        have h3 := ih _ _ _ _ _ _ _ h hk hi.2 h2.1 h2.2.1 h2.2.2.2.1 (by rw [h2.2.2.2.2]; exact hS)
        exact ⟨h2.2.2.tr h3.1, h3.2⟩
      | none =>
        rw [h1] at h
        simp only at h
        cases h2 : mm_jmp x st with
        | some q =>
          rw [h2] at h
          obtain ⟨o, b⟩ := q
          have hb := mm_jmp_cf h2 hs
          cases o with
          | none => exact ih _ _ _ _ _ _ _ h hk hi.2 hl hb hP hS
          | some t => exact ih _ _ _ _ _ _ _ h hk (hK k hk t) hl hb hP hS
        | none =>
          rw [h2] at h
          simp only at h
          cases h3 : mm_ret (mm_rk k) x st with
          | some q =>
            rw [h3] at h; cases h
            exact ⟨.rf hP, fun v hv => by cases hv; exact mm_ret_cf h3 hs⟩
          | none =>
            rw [h3] at h
            simp only at h
            cases h4 : mm_thr x st with
            | some q =>
              rw [h4] at h; cases h
              exact ⟨⟨fun _ _ => ⟨rfl, rfl, rfl⟩, hP, rfl⟩, fun v hv => by cases hv⟩
            | none =>
              rw [h4] at h
              simp only at h
              cases h5 : mm_call x st μ with
              | none => rw [h5] at h; simp at h
              | some q =>
                rw [h5] at h
                obtain ⟨kk, args, rest⟩ := q
                have hc := mm_call_cf hi.1 h5 hs
                simp only at h
                cases d with
                | zero => simp at h
                | succ d =>
                  simp only at h
                  cases h6 : mm_run G n d kk (mm_blk kk 0) (mm_ent (mm_mx kk) args) [] μ with
                  | none => rw [h6] at h; simp at h
                  | some q =>
                    rw [h6] at h
                    have h7 := ih _ _ _ _ _ _ _ h6 hc.1 (hK kk hc.1 0) (mm_all_ent _ hc.2.1) rfl hP hS
                    obtain ⟨o, μ1⟩ := q
                    have hS1 : μ1.2.2.2.1.length ≤ 1000 := by rw [h7.1.2.2]; exact hS
                    cases o with
                    | inl v =>
                      simp only at h
                      split at h
                      · have h8 := ih _ _ _ _ _ _ _ h hk hi.2 hl (by rw [List.all_append, Bool.and_eq_true]; exact ⟨h7.2 v rfl, hc.2.2⟩) h7.1.2.1 hS1
                        exact ⟨h7.1.tr h8.1, h8.2⟩
                      · cases h
                    | inr E =>
                      simp only at h
                      split at h
                      · split at h
                        · split at h
                          · cases h; exact ⟨h7.1, fun v hv => by cases hv⟩
                          · cases h
                        · split at h
                          · rename_i i is2 h9
                            split at h
                            · have h10 := hK k hk
                              have h8 := ih _ _ _ _ _ _ _ h hk (mm_ast_cf h9 (h10 _)) (mm_all_s1 _ hl rfl) rfl h7.1.2.1 hS1
                              exact ⟨h7.1.tr h8.1, h8.2⟩
                            · cases h
                          · cases h
                      · cases h
/-! the class's methods and the reference's, without constructors -/
def mm_KV (k : Nat) : Bool := decide (k < 135) && !([1, 6, 13, 29, 43, 62, 69, 74].contains k)
def mm_KM (k : Nat) : Bool := decide (136 ≤ k) && decide (k < 249)
def mm_KC (K : Nat → Bool) (k : Nat) : Bool := (mm_tabs.getD k []).all (fun q => q.2.all (mm_cf K))
theorem mm_KV_c : (List.range 135).all (fun k => !mm_KV k || mm_KC mm_KV k) = true := by decide +kernel
theorem mm_KM_c : (List.range 249).all (fun k => !mm_KM k || mm_KC mm_KM k) = true := by decide +kernel
theorem mm_KC_ok {K : Nat → Bool} {k : Nat} (h : mm_KC K k = true) (pc : Nat) : (mm_blk k pc).all (mm_cf K) = true := by
  unfold mm_blk
  cases hq : (mm_tabs.getD k []).lookup pc with
  | none => rfl
  | some B => exact List.all_eq_true.mp h (pc, B) (mm_lookup_mem _ hq)
theorem mm_KV_ok : ∀ k, mm_KV k = true → ∀ pc, (mm_blk k pc).all (mm_cf mm_KV) = true := fun k hk pc => by
  have h1 : k < 135 := by
    simp only [mm_KV, Bool.and_eq_true, decide_eq_true_eq] at hk; exact hk.1
  have h2 := List.all_eq_true.mp mm_KV_c k (List.mem_range.mpr h1)
  rw [hk] at h2
  exact mm_KC_ok h2 pc
theorem mm_KM_ok : ∀ k, mm_KM k = true → ∀ pc, (mm_blk k pc).all (mm_cf mm_KM) = true := fun k hk pc => by
  have h1 : k < 249 := by
    simp only [mm_KM, Bool.and_eq_true, decide_eq_true_eq] at hk; exact hk.2
  have h2 := List.all_eq_true.mp mm_KM_c k (List.mem_range.mpr h1)
  rw [hk] at h2
  exact mm_KC_ok h2 pc
