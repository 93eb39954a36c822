/-! THE OBJECTS ARE MADE -/
def lw_zI (n : Nat) (I : Nat → Nat → Int32) : Nat → Nat → Int32 := fun c => if c = n then (fun _ => 0) else I c
def lw_zP (n : Nat) (P : Nat → Nat → Nat) : Nat → Nat → Nat := fun c => if c = n then (fun _ => mm_NU) else P c
def lw_zJ (n : Nat) (J : Nat → Nat → Int64) : Nat → Nat → Int64 := fun c => if c = n then (fun _ => 0) else J c
def lw_B (n : Nat) (P : Nat → Nat → Nat) : Prop := ∀ a i, a < n → (P a i < n ∧ (60 ≤ a → 60 ≤ P a i) ∧ (a < 60 → P a i < 60)) ∨ P a i = mm_NU
theorem lw_B.z {n : Nat} {P : Nat → Nat → Nat} (h : lw_B n P) : lw_B (n + 1) (lw_zP n P) := fun a i ha => by
  show (_ ∧ _ ∧ _) ∨ _
  rw [lw_zP]
  split
  · exact Or.inr rfl
  · rcases h a i (by omega) with h | h
    · exact Or.inl ⟨by omega, h.2⟩
    · exact Or.inr h
theorem lw_B.up {n a0 i0 v : Nat} {P : Nat → Nat → Nat} (h : lw_B n P) (hv : v < n ∧ (60 ≤ a0 → 60 ≤ v) ∧ (a0 < 60 → v < 60)) : lw_B n (mm_up P a0 i0 v) := fun a i ha => by
  by_cases e : a = a0 ∧ i = i0
  · obtain ⟨rfl, rfl⟩ := e; rw [vb_up1]; exact Or.inl hv
  · rw [vb_up2 _ _ e]; exact h a i ha
theorem lw_B.ok {n : Nat} {P : Nat → Nat → Nat} {S : List (Nat × Nat)} (h : lw_B n P) (hn : S.length = n) (hS : S.all (fun q => decide (q.1 = 100 ∨ q.1 = 101 ∨ q.1 = 102) || decide (q.2 ≤ 60)) = true) : mm_okS P S = true := by
  rw [mm_okS, hS, Bool.and_true, hn, mm_okP]
  refine List.all_eq_true.mpr (fun k hk => List.all_eq_true.mpr (fun i hi => ?_))
  have hk := List.mem_range.mp hk
  rw [Bool.or_eq_true, decide_eq_true_eq, decide_eq_true_eq]
  rcases h k i hk with h | h
  · exact Or.inl h.1
  · exact Or.inr h
section LWN
variable {G : mm_G} {d : Nat} {I : Nat → Nat → Int32} {P : Nat → Nat → Nat} {J : Nat → Nat → Int64} {S S' : List (Nat × Nat)} {nc ns : Nat}
variable {k : Nat} {is : List mm_I} {ls st : List Value} {Q : mm_R → Prop} {μ μ1 : mm_M} {idx b w : Nat} {c : Int32}
theorem mm_wnew {n ci sz : Nat} (hn : S.length = n) (hS : S ++ [(ci, sz)] = S') (hz : (mm_fks.getD ci []).length = sz) (h9 : ci < 9) (hst : st.all (mm_okv n) = true) (hls : ls.all (mm_okv n) = true) (hB : lw_B n P) (hA : S.all (fun q => decide (q.1 = 100 ∨ q.1 = 101 ∨ q.1 = 102) || decide (q.2 ≤ 60)) = true) (hl : n < 1000) (kk : lw_B (n + 1) (lw_zP n P) → mm_W G d k is ls (.ref n :: st) (lw_zI n I, lw_zP n P, lw_zJ n J, S', nc + 1, ns + sz) Q) : mm_W G d k ((.new idx, ci, b, w, c) :: is) ls st (I, P, J, S, nc, ns) Q := by
  subst hn hS hz
  refine mm_w1 (ls' := ls) (st' := .ref S.length :: st) (μ' := (lw_zI S.length I, lw_zP S.length P, lw_zJ S.length J, S ++ [(ci, (mm_fks.getD ci []).length)], nc + 1, ns + (mm_fks.getD ci []).length)) ?_ (kk hB.z)
  simp only [mm_one]
  rw [if_pos ⟨h9, hst, hls, hB.ok rfl hA, hl⟩]
  rfl
theorem mm_wnewI {n m : Nat} (hn : S.length = n) (hS : S ++ [(100, m)] = S') (hm : m ≤ 100000) (hst : st.all (mm_okv n) = true) (hls : ls.all (mm_okv n) = true) (hB : lw_B n P) (hA : S.all (fun q => decide (q.1 = 100 ∨ q.1 = 101 ∨ q.1 = 102) || decide (q.2 ≤ 60)) = true) (hl : n < 1000) (kk : lw_B (n + 1) (lw_zP n P) → mm_W G d k is ls (.ref n :: st) (lw_zI n I, lw_zP n P, lw_zJ n J, S', nc + 1, ns + m) Q) {x1 x2 x3 : Nat} : mm_W G d k ((.newarray .int, x1, x2, x3, c) :: is) ls (.int (vb_i m) :: st) (I, P, J, S, nc, ns) Q := by
  subst hn hS
  have e : (vb_i m).toNatClampNeg = m := vb_nat (by omega)
  have h0 : ¬ vb_i m < 0 := fun h => by
    rw [Int32.lt_iff_toInt_lt, vb_toInt (by omega)] at h
    have : (0 : Int32).toInt = 0 := by decide
    omega
  refine mm_w1 (ls' := ls) (st' := .ref S.length :: st) (μ' := (lw_zI S.length I, lw_zP S.length P, lw_zJ S.length J, S ++ [(100, m)], nc + 1, ns + m)) ?_ (kk hB.z)
  simp only [mm_one, e]
  rw [if_pos ⟨h0, hm, hst, hls, hB.ok rfl hA, hl⟩]
  rfl
theorem mm_wnewZ {n m : Nat} (hn : S.length = n) (hS : S ++ [(101, m)] = S') (hm : m ≤ 100000) (hst : st.all (mm_okv n) = true) (hls : ls.all (mm_okv n) = true) (hB : lw_B n P) (hA : S.all (fun q => decide (q.1 = 100 ∨ q.1 = 101 ∨ q.1 = 102) || decide (q.2 ≤ 60)) = true) (hl : n < 1000) (kk : lw_B (n + 1) (lw_zP n P) → mm_W G d k is ls (.ref n :: st) (lw_zI n I, lw_zP n P, lw_zJ n J, S', nc + 1, ns + m) Q) {x1 x2 x3 : Nat} : mm_W G d k ((.newarray .boolean, x1, x2, x3, c) :: is) ls (.int (vb_i m) :: st) (I, P, J, S, nc, ns) Q := by
  subst hn hS
  have e : (vb_i m).toNatClampNeg = m := vb_nat (by omega)
  have h0 : ¬ vb_i m < 0 := fun h => by
    rw [Int32.lt_iff_toInt_lt, vb_toInt (by omega)] at h
    have : (0 : Int32).toInt = 0 := by decide
    omega
  refine mm_w1 (ls' := ls) (st' := .ref S.length :: st) (μ' := (lw_zI S.length I, lw_zP S.length P, lw_zJ S.length J, S ++ [(101, m)], nc + 1, ns + m)) ?_ (kk hB.z)
  simp only [mm_one, e]
  rw [if_pos ⟨h0, hm, hst, hls, hB.ok rfl hA, hl⟩]
  rfl
theorem mm_wnewJ {n m : Nat} (hn : S.length = n) (hS : S ++ [(102, m)] = S') (hm : m ≤ 100000) (hst : st.all (mm_okv n) = true) (hls : ls.all (mm_okv n) = true) (hB : lw_B n P) (hA : S.all (fun q => decide (q.1 = 100 ∨ q.1 = 101 ∨ q.1 = 102) || decide (q.2 ≤ 60)) = true) (hl : n < 1000) (kk : lw_B (n + 1) (lw_zP n P) → mm_W G d k is ls (.ref n :: st) (lw_zI n I, lw_zP n P, lw_zJ n J, S', nc + 1, ns + m) Q) {x1 x2 x3 : Nat} : mm_W G d k ((.newarray .long, x1, x2, x3, c) :: is) ls (.int (vb_i m) :: st) (I, P, J, S, nc, ns) Q := by
  subst hn hS
  have e : (vb_i m).toNatClampNeg = m := vb_nat (by omega)
  have h0 : ¬ vb_i m < 0 := fun h => by
    rw [Int32.lt_iff_toInt_lt, vb_toInt (by omega)] at h
    have : (0 : Int32).toInt = 0 := by decide
    omega
  refine mm_w1 (ls' := ls) (st' := .ref S.length :: st) (μ' := (lw_zI S.length I, lw_zP S.length P, lw_zJ S.length J, S ++ [(102, m)], nc + 1, ns + m)) ?_ (kk hB.z)
  simp only [mm_one, e]
  rw [if_pos ⟨h0, hm, hst, hls, hB.ok rfl hA, hl⟩]
  rfl
/-- a constructor -/
theorem mm_wspc {kk nA : Nat} {args rest : List Value} {Q1 : mm_R → Prop} (h5 : mm_call (.invokespecial idx, kk, nA, w, c) st μ = some (kk, args, rest)) (h9 : kk < 9000) (hd : 0 < d) (hc : mm_C G (d - 1) kk args μ Q1) (hk : ∀ r, Q1 r → ∃ μ1, r = (.inl none, μ1) ∧ (ls.all (mm_okv μ.2.2.2.1.length) = true ∧ rest.all (mm_okv μ.2.2.2.1.length) = true) ∧ mm_W G d k is ls rest μ1 Q) : mm_W G d k ((.invokespecial idx, kk, nA, w, c) :: is) ls st μ Q := by
  obtain ⟨d, rfl⟩ : ∃ j, d = j + 1 := ⟨d - 1, by omega⟩
  obtain ⟨r, h1, h2⟩ := hc
  obtain ⟨μ1, rfl, h3, r2, h4, h6⟩ := hk r h2
  exact ⟨r2, mm_cret (v := none) (by simp only [mm_one]; rw [if_neg (by omega)]) rfl rfl rfl h5 h1 (Or.inr h3) h4, h6⟩
end LWN
