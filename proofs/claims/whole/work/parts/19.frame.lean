/-! A WHOLE FRAME: as long as the small machine runs, the machine follows -/
theorem mm_okl_cons {k pc : Nat} {x : mm_I} {is : List mm_I} (h : mm_okl k pc (x :: is) = true) : ∃ len, decode (mm_c k) pc = .ok (x.1, len) ∧ (len = mm_len x.1 ∨ mm_sw x.1 = true) ∧ mm_ckI k pc x = true ∧ mm_okl k (pc + mm_len x.1) is = true := by
  simp only [mm_okl, Bool.and_eq_true] at h
  obtain ⟨⟨h1, h2⟩, h3⟩ := h
  split at h1
  · rename_i i len hd
    simp only [Bool.and_eq_true, Bool.or_eq_true, decide_eq_true_eq] at h1
    obtain ⟨rfl, h1⟩ := h1
    exact ⟨len, hd, h1, h2, h3⟩
  · cases h1
theorem mm_lookup_mem {α : Type} {a : Nat} {b : α} : ∀ (l : List (Nat × α)), l.lookup a = some b → (a, b) ∈ l := by
  intro l
  induction l with
  | nil => intro h; simp at h
  | cons q l ih =>
    intro h
    obtain ⟨a', b'⟩ := q
    rw [List.lookup_cons] at h
    split at h
    · rename_i he
      have : a = a' := by simpa using he
      cases h
      subst this
      exact List.mem_cons_self
    · exact List.mem_cons_of_mem _ (ih h)
theorem mm_blk_ok {k t : Nat} (h : mm_okm k = true) : mm_okl k t (mm_blk k t) = true := by
  unfold mm_blk
  cases hq : (mm_tabs.getD k []).lookup t with
  | none => rfl
  | some B => exact List.all_eq_true.mp h (t, B) (mm_lookup_mem _ hq)
theorem mm_sw_one {G : mm_G} {x : mm_I} {ls st : List Value} {μ : mm_M} (h : mm_sw x.1 = true) : mm_one G x ls st μ = none := by
  obtain ⟨i, x1, x2, x3, x4⟩ := x
  cases i <;> first | rfl | (simp only [mm_sw] at h; cases h)
theorem mm_jmp_ck {k pc : Nat} {x : mm_I} {st : List Value} {q : Option Nat × List Value} (h : mm_jmp x st = some q) (hck : mm_ckI k pc x = true) : mm_okj pc x = true := by
  obtain ⟨i, x1, x2, x3, x4⟩ := x
  cases i <;> first | exact hck | (simp only [mm_jmp] at h; cases h)
theorem mm_sw_ret {rk : Nat} {x : mm_I} {st : List Value} {v : Option Value} (h : mm_ret rk x st = some v) : mm_sw x.1 = false ∧ mm_len x.1 = 1 := by
  obtain ⟨i, x1, x2, x3, x4⟩ := x
  cases i <;> first | (simp only [mm_ret] at h; cases h; done) | exact ⟨rfl, rfl⟩
set_option maxRecDepth 20000 in
theorem mm_sw_thr {x : mm_I} {st : List Value} {E : Nat} (h : mm_thr x st = some E) : mm_sw x.1 = false ∧ mm_len x.1 = 3 ∧ E < 2 := by
  obtain ⟨i, x1, x2, x3, x4⟩ := x
  cases i <;> first | (simp only [mm_thr] at h; cases h; done) | skip
  case new idx =>
    simp only [mm_thr] at h
    split at h
    · cases h; exact ⟨rfl, rfl, by omega⟩
    · cases h
set_option maxRecDepth 20000 in
theorem mm_call_ok {k pc kk : Nat} {x : mm_I} {st av rest : List Value} {μ : mm_M} (h : mm_call x st μ = some (kk, av, rest)) (hck : mm_ckI k pc x = true) : mm_sw x.1 = false ∧ mm_len x.1 = 3 ∧ kk < 279 ∧ (mm_ent1 av).length ≤ mm_mx kk ∧ x.2.2.2.2.toNatClampNeg = pc := by
  obtain ⟨i, x1, x2, x3, x4⟩ := x
  cases i <;> first | (simp only [mm_call] at h; cases h; done) | skip
  case invokevirtual idx =>
    simp only [mm_call] at h
    split at h
    · rename_i h9
      split at h
      · split at h
        · split at h
          · rename_i h4
            cases h
            simp only [mm_ckI, Bool.or_eq_true, Bool.and_eq_true, decide_eq_true_eq] at hck
            obtain ⟨-, hc2⟩ := hck
            rcases hc2 with hc2 | ⟨g1, g2, g3, g4, g5, g6⟩
            · omega
            · refine ⟨rfl, rfl, g2, h4.2, ?_⟩
              simp only
              rw [g5]
              exact nI_clamp (by omega)
          · cases h
        · cases h
      · cases h
    · cases h
  case invokespecial idx =>
    simp only [mm_call] at h
    split at h
    · rename_i h9
      split at h
      · split at h
        · rename_i h4
          cases h
          simp only [mm_ckI, Bool.or_eq_true, Bool.and_eq_true, decide_eq_true_eq] at hck
          rcases hck with hck | ⟨-, hc2⟩
          · omega
          rcases hc2 with hc2 | ⟨g1, g2, g3, g5, g6⟩
          · omega
          · refine ⟨rfl, rfl, g2, h4, ?_⟩
            simp only
            rw [g5]
            exact nI_clamp (by omega)
        · cases h
      · cases h
    · cases h
  case invokestatic idx =>
    simp only [mm_call] at h
    split at h
    · rename_i h9
      cases h
      simp only [mm_ckI, Bool.or_eq_true, Bool.and_eq_true, decide_eq_true_eq] at hck
      obtain ⟨-, hc2⟩ := hck
      rcases hc2 with hc2 | ⟨g1, g2, g3, g5, g6⟩
      · omega
      · refine ⟨rfl, rfl, g2, h9.2.2.2, ?_⟩
        simp only
        rw [g5]
        exact nI_clamp (by omega)
    · cases h
/-- the handler that the small machine takes is the table's -/
theorem mm_hd_split : ∀ (hs hh : List (Nat × Nat × Nat × Nat)) (pc E h : Nat), mm_hsOk hs hh = true → mm_hd hs pc E = some h → ∃ (pre : List (Nat × Nat × Nat × Nat)) (a b ct : Nat) (suf : List (Nat × Nat × Nat × Nat)), hh = pre ++ (a, b, h, ct) :: suf ∧ a ≤ pc ∧ pc < b ∧ mm_ctE ct = E ∧ E < 2 ∧ ∀ z ∈ pre, ¬ (z.1 ≤ pc ∧ pc < z.2.1) ∨ (mm_ctE z.2.2.2 ≠ E ∧ mm_ctE z.2.2.2 < 2) := by
  intro hs
  induction hs with
  | nil => intro hh pc E h _ h2; simp [mm_hd] at h2
  | cons y hs ih =>
    intro hh pc E h h1 h2
    obtain ⟨a, b, h0, E0⟩ := y
    cases hh with
    | nil => simp [mm_hsOk] at h1
    | cons z hh =>
      obtain ⟨a', b', h', ct⟩ := z
      simp only [mm_hsOk, Bool.and_eq_true, decide_eq_true_eq] at h1
      obtain ⟨⟨rfl, rfl, rfl, hE, hE2⟩, h3⟩ := h1
      simp only [mm_hd] at h2
      split at h2
      · rename_i hc
        cases h2
        exact ⟨[], a, b, ct, hh, rfl, hc.1, hc.2.1, by rw [← hE]; exact hc.2.2, by rw [← hc.2.2]; exact hE2, fun _ hz => nomatch hz⟩
      · rename_i hc
        obtain ⟨pre, a2, b2, c2, suf, e1, e2, e3, e4, e5, e6⟩ := ih hh pc E h h3 h2
        refine ⟨(a, b, h0, ct) :: pre, a2, b2, c2, suf, by rw [e1]; rfl, e2, e3, e4, e5, fun z hz => ?_⟩
        rcases List.mem_cons.mp hz with rfl | hz
        · by_cases hcov : a ≤ pc ∧ pc < b
          · exact Or.inr ⟨fun he => hc ⟨hcov.1, hcov.2, by rw [hE]; exact he⟩, by rw [← hE]; exact hE2⟩
          · exact Or.inl hcov
        · exact e6 z hz
theorem mm_hhKd {k : Nat} (h : k < 280) (hh : mm_hh k ≠ []) : mm_oc k = 10 := by
  have h1 := mm_mAll h
  simp only [mm_mok, Bool.and_eq_true, decide_eq_true_eq] at h1
  obtain ⟨-, h2⟩ := h1
  split at h2
  · simp only [Bool.and_eq_true, decide_eq_true_eq] at h2; exact absurd h2.2 hh
  · simp only [Bool.and_eq_true, decide_eq_true_eq] at h2; exact absurd h2.2 hh
  · simp only [Bool.and_eq_true, decide_eq_true_eq] at h2; exact absurd h2.2 hh
  · simp only [Bool.and_eq_true, decide_eq_true_eq] at h2; exact h2.2
  · simp only [decide_eq_true_eq] at h2; exact absurd h2 hh
  · cases h2
theorem mm_hsOkA {k : Nat} (h : k < 280) : mm_hsOk (mm_hs k) (mm_hh k) = true := by
  have h1 := mm_mAll h
  simp only [mm_mok, Bool.and_eq_true, decide_eq_true_eq] at h1
  exact h1.1.1.2
theorem mm_ctName {ct E : Nat} (h : mm_ctE ct = E) (hE : E < 2) : ct ≠ 0 ∧ Cond.classLink RL ct (mm_EN E) ∈ mm_TB := by
  unfold mm_ctE at h
  split at h
  · rename_i e; subst e; subst h; exact ⟨by decide, mm_TBc mm_hl1⟩
  · split at h
    · rename_i e; subst e; subst h; exact ⟨by decide, mm_TBc mm_hl0⟩
    · omega
theorem mm_cs0 : (lw_tbl.contains (.castable mm_NSE mm_NSE) && mm_isN (.castable mm_NSE mm_NSE)) = true := by decide +kernel
theorem mm_cs1 : (lw_tbl.contains (.castable mm_IAE mm_IAE) && mm_isN (.castable mm_IAE mm_IAE)) = true := by decide +kernel
theorem mm_csN {E : Nat} (hE : E < 2) : Cond.castable (mm_EN E) (mm_EN E) ∈ mm_NW := by
  rcases (show E = 0 ∨ E = 1 by omega) with rfl | rfl
  · have := mm_cs0
    simp only [Bool.and_eq_true, List.contains_iff_mem] at this
    exact List.mem_filter.mpr this
  · have := mm_cs1
    simp only [Bool.and_eq_true, List.contains_iff_mem] at this
    exact List.mem_filter.mpr this
