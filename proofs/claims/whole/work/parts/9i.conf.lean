/-! CONFINEMENT: a run whose references stay in a region of the addresses writes there alone -/
def mm_okR (R : Nat → Bool) (v : Value) : Bool := match v with
  | .ref a => R a || decide (mm_SC ≤ a)
  | _ => true
def mm_cfP (R : Nat → Bool) (P : Nat → Nat → Nat) : Prop := ∀ a i, R a = true → R (P a i) = true ∨ P a i = mm_NU ∨ mm_SC ≤ P a i
def mm_fr (R : Nat → Bool) (μ μ' : mm_M) : Prop := (∀ a, R a = false → μ'.1 a = μ.1 a ∧ μ'.2.1 a = μ.2.1 a ∧ μ'.2.2.1 a = μ.2.2.1 a) ∧ mm_cfP R μ'.2.1 ∧ μ'.2.2.2.1 = μ.2.2.2.1
theorem mm_fr.rf {R : Nat → Bool} {μ : mm_M} (h : mm_cfP R μ.2.1) : mm_fr R μ μ := ⟨fun _ _ => ⟨rfl, rfl, rfl⟩, h, rfl⟩
theorem mm_fr.tr {R : Nat → Bool} {μ μ1 μ2 : mm_M} (h : mm_fr R μ μ1) (h' : mm_fr R μ1 μ2) : mm_fr R μ μ2 := ⟨fun a ha => ⟨(h'.1 a ha).1.trans (h.1 a ha).1, (h'.1 a ha).2.1.trans (h.1 a ha).2.1, (h'.1 a ha).2.2.trans (h.1 a ha).2.2⟩, h'.2.1, h'.2.2.trans h.2.2⟩
/-- no cell is made, calls stay within K -/
def mm_cf (K : Nat → Bool) (x : mm_I) : Bool := match x.1 with
  | .new _ => decide (900 ≤ x.2.1)
  | .newarray _ => false
  | .invokevirtual _ => decide (9000 ≤ x.2.1) || K x.2.1
  | .invokespecial _ => decide (9000 ≤ x.2.1) || K x.2.1
  | .invokestatic _ => decide (9000 ≤ x.2.1) || K x.2.1
  | _ => true
theorem mm_all_get {R : Nat → Bool} {ls : List Value} {i : Nat} {v : Value} (h : ls.all (mm_okR R) = true) (e : ls[i]? = some v) : mm_okR R v = true := List.all_eq_true.mp h v (List.mem_of_getElem? e)
theorem mm_all_set {R : Nat → Bool} {ls : List Value} (i : Nat) {v : Value} (h : ls.all (mm_okR R) = true) (hv : mm_okR R v = true) : (ls.set i v).all (mm_okR R) = true := by
  refine List.all_eq_true.mpr (fun w hw => ?_)
  rcases List.mem_or_eq_of_mem_set hw with h1 | h1
  · exact List.all_eq_true.mp h w h1
  · rw [h1]; exact hv
theorem mm_all_kill {R : Nat → Bool} {ls : List Value} (i : Nat) (h : ls.all (mm_okR R) = true) : (mm_kill i ls).all (mm_okR R) = true := by
  cases i with
  | zero => exact h
  | succ j =>
    simp only [mm_kill]
    split
    · split
      · exact mm_all_set j h rfl
      · exact h
    · exact h
theorem mm_all_s1 {R : Nat → Bool} {ls : List Value} (i : Nat) {v : Value} (h : ls.all (mm_okR R) = true) (hv : mm_okR R v = true) : (mm_s1 i v ls).all (mm_okR R) = true := mm_all_set i (mm_all_kill i h) hv
theorem mm_all_s2 {R : Nat → Bool} {ls : List Value} (i : Nat) {v : Value} (h : ls.all (mm_okR R) = true) (hv : mm_okR R v = true) : (mm_s2 i v ls).all (mm_okR R) = true := mm_all_set (i + 1) (mm_all_set i (mm_all_kill i h) hv) rfl
theorem mm_inR {R : Nat → Bool} {S : List (Nat × Nat)} {a : Nat} {q : Nat × Nat} (hS : S.length ≤ 1000) (h : mm_okR R (.ref a) = true) (e : S[a]? = some q) : R a = true := by
  have h1 : a < S.length := by
    by_cases h2 : a < S.length
    · exact h2
    · rw [List.getElem?_eq_none (by omega)] at e; cases e
  simp only [mm_okR, Bool.or_eq_true, decide_eq_true_eq] at h
  rcases h with h | h
  · exact h
  · have e9 : mm_SC = 900000 := rfl
    rw [e9] at h
    omega
theorem mm_ne_of {R : Nat → Bool} {a b : Nat} (ha : R a = true) (hb : R b = false) : b ≠ a := fun e => by rw [e, ha] at hb; cases hb
theorem mm_fr.upI {R : Nat → Bool} {I : Nat → Nat → Int32} {ρ : (Nat → Nat → Nat) × (Nat → Nat → Int64) × List (Nat × Nat) × Nat × Nat} {a i : Nat} {v : Int32} (h : mm_cfP R ρ.1) (ha : R a = true) : mm_fr R (I, ρ) (mm_up I a i v, ρ) := ⟨fun b hb => ⟨vb_up3 _ _ (mm_ne_of ha hb), rfl, rfl⟩, h, rfl⟩
theorem mm_fr.upJ {R : Nat → Bool} {μ : mm_M} {a i : Nat} {v : Int64} (h : mm_cfP R μ.2.1) (ha : R a = true) : mm_fr R μ (μ.1, μ.2.1, mm_up μ.2.2.1 a i v, μ.2.2.2) := ⟨fun b hb => ⟨rfl, rfl, vb_up3 _ _ (mm_ne_of ha hb)⟩, h, rfl⟩
theorem mm_fr.upP {R : Nat → Bool} {μ : mm_M} {a i v : Nat} (h : mm_cfP R μ.2.1) (ha : R a = true) (hv : mm_okR R (.ref v) = true) : mm_fr R μ (μ.1, mm_up μ.2.1 a i v, μ.2.2) := ⟨fun b hb => ⟨rfl, vb_up3 _ _ (mm_ne_of ha hb), rfl⟩, fun b j hb => by
  show R (mm_up μ.2.1 a i v b j) = true ∨ mm_up μ.2.1 a i v b j = mm_NU ∨ mm_SC ≤ mm_up μ.2.1 a i v b j
  by_cases e : b = a ∧ j = i
  · obtain ⟨rfl, rfl⟩ := e
    rw [vb_up1]
    simp only [mm_okR, Bool.or_eq_true, decide_eq_true_eq] at hv
    rcases hv with hv | hv
    · exact Or.inl hv
    · exact Or.inr (Or.inr hv)
  · rw [vb_up2 _ _ e]; exact h b j hb, rfl⟩
theorem mm_fr.cpy {R : Nat → Bool} {I : Nat → Nat → Int32} {ρ : (Nat → Nat → Nat) × (Nat → Nat → Int64) × List (Nat × Nat) × Nat × Nat} {b : Nat} {f : Nat → Int32} (h : mm_cfP R ρ.1) (hb : R b = true) : mm_fr R (I, ρ) ((fun c => if c = b then f else I c), ρ) := ⟨fun c hc => ⟨if_neg (mm_ne_of hb hc), rfl, rfl⟩, h, rfl⟩
theorem mm_okR_rv {R : Nat → Bool} {r : Nat} (h : R r = true ∨ r = mm_NU ∨ mm_SC ≤ r) : mm_okR R (mm_rv r) = true := by
  simp only [mm_rv]
  split
  · rfl
  · rename_i hne
    simp only [mm_okR, Bool.or_eq_true, decide_eq_true_eq]
    rcases h with h | h | h
    · exact Or.inl h
    · exact absurd h hne
    · exact Or.inr h
theorem mm_SB_ge (j : Nat) : mm_SC ≤ mm_SB + j := by simp only [mm_SC, mm_SB]; omega
set_option maxHeartbeats 4000000 in
theorem mm_one_cf {G : mm_G} {R K : Nat → Bool} {x : mm_I} {ls st ls' st' : List Value} {μ μ' : mm_M} (hx : mm_cf K x = true) (h : mm_one G x ls st μ = some (ls', st', μ')) (hl : ls.all (mm_okR R) = true) (hs : st.all (mm_okR R) = true) (hP : mm_cfP R μ.2.1) (hS : μ.2.2.2.1.length ≤ 1000) : ls'.all (mm_okR R) = true ∧ st'.all (mm_okR R) = true ∧ mm_fr R μ μ' := by
  obtain ⟨i, x1, x2, x3, x4⟩ := x
  cases i <;> simp only [mm_one] at h <;> (repeat' split at h) <;> first
    | (cases h; done)
    | (exfalso; simp only [mm_cf, decide_eq_true_eq, Bool.false_eq_true] at hx; done)
    | (exfalso; simp only [mm_cf, decide_eq_true_eq] at hx; omega)
    | (cases h
       try simp only [List.all_cons, Bool.and_eq_true] at hs
       first
         | exact ⟨hl, hs.2, .rf hP⟩
         | exact ⟨hl, hs, .rf hP⟩
         | exact ⟨hl, hs.2.2, .rf hP⟩
         | exact ⟨mm_all_s1 _ hl hs.1, hs.2, .rf hP⟩
         | exact ⟨mm_all_s2 _ hl hs.1, hs.2, .rf hP⟩
         | exact ⟨mm_all_s1 _ hl rfl, hs, .rf hP⟩
         | exact ⟨hl, hs.2.2, .upI hP (mm_inR hS hs.2.1 (by assumption))⟩
         | exact ⟨hl, hs.2.2.2, .upI hP (mm_inR hS hs.2.2.1 (by assumption))⟩
         | exact ⟨hl, hs.2.2, .upJ hP (mm_inR hS hs.2.1 (by assumption))⟩
         | exact ⟨hl, hs.2.2.2, .upJ hP (mm_inR hS hs.2.2.1 (by assumption))⟩
         | exact ⟨hl, hs.2.2, .upP hP (mm_inR hS hs.2.1 (by assumption)) hs.1⟩
         | exact ⟨hl, hs.2.2.2.2.2, .cpy hP (mm_inR hS hs.2.2.1 (by assumption))⟩
         | (refine ⟨hl, ?_, .rf hP⟩
            simp only [List.all_cons, Bool.and_eq_true]
            first
              | exact ⟨rfl, hs⟩
              | exact ⟨rfl, hs.2⟩
              | exact ⟨rfl, hs.2.2⟩
              | exact ⟨mm_all_get hl (by assumption), hs⟩
              | exact ⟨hs.1, hs.1, hs.2⟩
              | exact ⟨hs.1, hs.2.1, hs.1, hs.2.1, hs.2.2⟩
              | exact ⟨mm_okR_rv (hP _ _ (mm_inR hS hs.1 (by assumption))), hs.2⟩
              | exact ⟨by simp only [mm_okR, Bool.or_eq_true, decide_eq_true_eq]; exact Or.inr (mm_SB_ge _), hs⟩))
