/-! THE LAND -/
section
variable {μ : mm_M} {I : Nat → Nat → Int32} {P : Nat → Nat → Nat} {J : Nat → Nat → Int64} {S : List (Nat × Nat)} {nc ns : Nat}
theorem vb_cv {st : List Value} {idx kk nA w a ci n : Nat} {c : Int32} {vs rest : List Value} (hS : S[a]? = some (ci, n)) (h1 : decide (kk < 9000 ∧ nA ≤ st.length ∧ ((st.drop nA).map fun v => v.category).sum ≤ 8) = true) (h2 : (st.take nA).reverse = .ref a :: vs) (h3 : st.drop nA = rest) (h4 : decide (ci = mm_ci kk ∧ (mm_ent1 (.ref a :: vs)).length ≤ mm_mx kk) = true) :
    mm_call (.invokevirtual idx, kk, nA, w, c) st (I, P, J, S, nc, ns) = some (kk, .ref a :: vs, rest) := by
  simp only [mm_call]
  rw [if_pos (of_decide_eq_true h1), h2]
  simp only [hS]
  rw [if_pos (of_decide_eq_true h4), h3]
end
/-- what a land tells: villages, worth, fort, neighbours, what a rule gives for values, whether there is a rule of taking, styles, roads -/
abbrev vb_L : Type := Nat × (Nat → Int32) × (Nat → Int32) × (Nat → Int32) × (Nat → (Nat → Int32) → Int32) × Bool × Nat × Nat
def vb_n (ℓ : vb_L) : Nat := ℓ.1
def vb_wo (ℓ : vb_L) : Nat → Int32 := ℓ.2.1
def vb_fo (ℓ : vb_L) : Nat → Int32 := ℓ.2.2.1
def vb_nb (ℓ : vb_L) : Nat → Int32 := ℓ.2.2.2.1
def vb_ru (ℓ : vb_L) : Nat → (Nat → Int32) → Int32 := ℓ.2.2.2.2.1
def vb_ht (ℓ : vb_L) : Bool := ℓ.2.2.2.2.2.1
def vb_sc (ℓ : vb_L) : Nat := ℓ.2.2.2.2.2.2.1
def vb_rc (ℓ : vb_L) : Nat := ℓ.2.2.2.2.2.2.2
/-! what code gives -/
def vb_op (s l r : Int32) : Int32 :=
  if s = vb_i 8 then vb_b (!(l == 0) && !(r == 0)) else if s = vb_i 9 then vb_b (!(l == 0) || !(r == 0)) else if s = vb_i 10 then l + r else if s = vb_i 11 then l - r
  else if s = vb_i 12 then l * r else if s = vb_i 13 then (if r = 0 then 0 else l / r) else if s = vb_i 14 then vb_b (decide (l < r)) else vb_b (l == r)
def vb_st1 (vals : Nat → Int32) (stk : List Int32) (it : Int32) : List Int32 :=
  if -1 - it < vb_i 8 then (if it < 0 then vals (-1 - it).toNatClampNeg else it) :: stk else match stk with
    | r :: l :: s => vb_op (-1 - it) l r :: s
    | s => s
def vb_wf (c : List Int32) (h : Nat) : Prop := match c with
  | [] => True
  | it :: c => (-1 - it < vb_i 8 ∧ h < 64 ∧ vb_wf c (h + 1)) ∨ (2 ≤ h ∧ (∃ j, j < 8 ∧ -1 - it = vb_i (8 + j)) ∧ vb_wf c (h - 1))
/-- a rule of the code gives f -/
def vb_RD (co sa en : Nat → Int32) (r : Nat) (f : (Nat → Int32) → Int32) : Prop :=
  ∃ (s : Nat) (c : List Int32), sa r = vb_i s ∧ en r = vb_i (s + c.length) ∧ s + c.length ≤ 700 ∧ (∀ j, j < c.length → co (s + j) = c.getD j 0) ∧ vb_wf c 0 ∧ ∀ vals, (c.foldl (vb_st1 vals) []).headD 0 = f vals
def vb_deg (ℓ : vb_L) : Nat → Nat
  | 0 => 0
  | v + 1 => vb_deg ℓ v + vb_cnt 10 (vb_has (vb_nb ℓ v))
/-- a land lies in these rows -/
def vb_LDr (ℓ : vb_L) (o wo fo nb co sa en : Nat → Int32) : Prop :=
  vb_n ℓ ≤ 10 ∧ o 0 = vb_i (vb_n ℓ) ∧ o 3 = vb_b (vb_ht ℓ) ∧ (∀ v, v < vb_n ℓ → wo v = vb_wo ℓ v) ∧ (∀ v, v < vb_n ℓ → fo v = vb_fo ℓ v) ∧ (∀ v, v < vb_n ℓ → nb v = vb_nb ℓ v) ∧ (∀ v, v < vb_n ℓ → vb_below (vb_n ℓ) (vb_nb ℓ v)) ∧ (vb_ht ℓ = true → vb_RD co sa en 3 (vb_ru ℓ 3)) ∧ (∀ r, r < vb_sc ℓ → vb_RD co sa en r (vb_ru ℓ r)) ∧ vb_deg ℓ (vb_n ℓ) ≤ 36 ∧ o 2 = vb_i (vb_sc ℓ) ∧ vb_sc ℓ ≤ 3 ∧ o 1 = vb_i (vb_rc ℓ) ∧ vb_rc ℓ ≤ 18
def vb_LD (ℓ : vb_L) (L : Nat) (I : Nat → Nat → Int32) : Prop := vb_LDr ℓ (I L) (I (L + 1)) (I (L + 2)) (I (L + 3)) (I (L + 7)) (I (L + 8)) (I (L + 9))
/-- the cells that asking a land may change -/
def vb_scr (L a : Nat) : Prop := a = L + 5 ∨ a = L + 10 ∨ a = L + 11
theorem vb_LD.fr {ℓ : vb_L} {L : Nat} {I I' : Nat → Nat → Int32} (h : vb_LD ℓ L I) (hf : vb_fr (vb_scr L) I I') : vb_LD ℓ L I' := by
  have e : ∀ j, ¬ (j = 5 ∨ j = 10 ∨ j = 11) → I' (L + j) = I (L + j) := fun j hj => hf _ (by simp only [vb_scr]; omega)
  have e0 : I' L = I L := e 0 (by decide)
  simp only [vb_LD, e0, e 1 (by decide), e 2 (by decide), e 3 (by decide), e 7 (by decide), e 8 (by decide), e 9 (by decide)]
  exact h
section
variable {ℓ : vb_L} {L : Nat} {I : Nat → Nat → Int32}
theorem vl_n (h : vb_LD ℓ L I) : I L 0 = vb_i (vb_n ℓ) := h.2.1
theorem vl_10 (h : vb_LD ℓ L I) : vb_n ℓ ≤ 10 := h.1
theorem vl_ht (h : vb_LD ℓ L I) : I L 3 = vb_b (vb_ht ℓ) := h.2.2.1
theorem vl_wo (h : vb_LD ℓ L I) {v : Nat} (hv : v < vb_n ℓ) : I (L + 1) v = vb_wo ℓ v := h.2.2.2.1 v hv
theorem vl_fo (h : vb_LD ℓ L I) {v : Nat} (hv : v < vb_n ℓ) : I (L + 2) v = vb_fo ℓ v := h.2.2.2.2.1 v hv
theorem vl_nb (h : vb_LD ℓ L I) {v : Nat} (hv : v < vb_n ℓ) : I (L + 3) v = vb_nb ℓ v := h.2.2.2.2.2.1 v hv
theorem vl_nbb (h : vb_LD ℓ L I) {v : Nat} (hv : v < vb_n ℓ) : vb_below (vb_n ℓ) (vb_nb ℓ v) := h.2.2.2.2.2.2.1 v hv
theorem vl_take (h : vb_LD ℓ L I) (hh : vb_ht ℓ = true) : vb_RD (I (L + 7)) (I (L + 8)) (I (L + 9)) 3 (vb_ru ℓ 3) := h.2.2.2.2.2.2.2.1 hh
theorem vl_style (h : vb_LD ℓ L I) {r : Nat} (hr : r < vb_sc ℓ) : vb_RD (I (L + 7)) (I (L + 8)) (I (L + 9)) r (vb_ru ℓ r) := h.2.2.2.2.2.2.2.2.1 r hr
theorem vl_deg (h : vb_LD ℓ L I) : vb_deg ℓ (vb_n ℓ) ≤ 36 := h.2.2.2.2.2.2.2.2.2.1
theorem vl_sc (h : vb_LD ℓ L I) : I L 2 = vb_i (vb_sc ℓ) := h.2.2.2.2.2.2.2.2.2.2.1
theorem vl_sc3 (h : vb_LD ℓ L I) : vb_sc ℓ ≤ 3 := h.2.2.2.2.2.2.2.2.2.2.2.1
theorem vl_rc (h : vb_LD ℓ L I) : I L 1 = vb_i (vb_rc ℓ) := h.2.2.2.2.2.2.2.2.2.2.2.2.1
theorem vl_rc18 (h : vb_LD ℓ L I) : vb_rc ℓ ≤ 18 := h.2.2.2.2.2.2.2.2.2.2.2.2.2
end
section LAND
variable {G : mm_G} {d : Nat} {I : Nat → Nat → Int32} {P : Nat → Nat → Nat} {J : Nat → Nat → Int64} {S : List (Nat × Nat)} {nc ns : Nat} {μ : mm_M} {ℓ : vb_L} {L : Nat}
theorem c_has {s : Int32} {j : Nat} (hj : j < 32) : mm_Call G d 122 [.int s, .int (vb_i j)] μ (.inl (some (.int (vb_b (vb_has s j)))), μ) := by
  refine mm_C.call ?_
  show mm_W _ _ 122 (mm_blk 122 0) [.int s, .int (vb_i j)] [] _ _
  refine mm_w1 rfl ?_
  refine mm_w1 rfl ?_
  refine mm_w1 rfl ?_
  refine mm_wv (vb_i 1) rfl (by decide) ?_
  refine mm_wv (vb_b (vb_has _ _)) rfl (vb_shr1 _ (by omega)) ?_
  refine mm_bifeq ?_ ?_
  · intro h5
    refine mm_wv (vb_i 0) rfl (by decide) ?_
    refine mm_wr rfl rfl rfl ?_
    rw [h5]; rfl
  · intro h5
    refine mm_wv (vb_i 1) rfl (by decide) ?_
    refine mm_wgoto ?_
    refine mm_wr rfl rfl rfl ?_
    rw [h5]; rfl
/-- the count of bits as the machine does it -/
def vb_bc (v : Int32) : Int32 :=
  let u (x y : Int32) : Int32 := (x.toUInt32 >>> (y.toUInt32 &&& Int32.toUInt32 31)).toInt32
  let a := v - (u v (vb_i 1) &&& 1431655765)
  let b := (a &&& 858993459) + (u a (vb_i 2) &&& 858993459)
  let c := (b + u b (vb_i 4)) &&& 252645135
  let e := c + u c (vb_i 8)
  let f := e + u e (vb_i 16)
  f &&& vb_i 63
theorem vb_bc1 : ∀ i, i < 1024 → vb_bc (vb_i i) = vb_i (vb_cnt 10 (vb_has (vb_i i))) := by decide +kernel
theorem vb_small {s : Int32} (h : vb_below 10 s) : ∃ i, i < 1024 ∧ s = vb_i i := by
  refine ⟨s.toBitVec.toNat, ?_, ?_⟩
  · show _ < 2 ^ 10
    apply Nat.lt_pow_two_of_testBit
    intro i hi
    have := h i
    cases e : s.toBitVec.toNat.testBit i with
    | false => rfl
    | true =>
      have : i < 10 := this (by simp only [vb_has, BitVec.getLsbD]; exact e)
      omega
  · apply Int32.toBitVec_inj.mp
    apply BitVec.eq_of_toNat_eq
    simp [vb_i]
theorem vb_bc2 {s : Int32} (h : vb_below 10 s) : vb_bc s = vb_i (vb_cnt 10 (vb_has s)) := by
  obtain ⟨i, hi, rfl⟩ := vb_small h
  exact vb_bc1 i hi
theorem c_bc {s : Int32} (h : vb_below 10 s) : mm_Call G d 0 [.int s] μ (.inl (some (.int (vb_i (vb_cnt 10 (vb_has s))))), μ) := by
  refine mm_C.call ?_
  rw [← vb_bc2 h]
  show mm_W _ _ 0 (mm_blk 0 0) [.int s] [] _ _
  refine mm_w1 rfl ?_
  refine mm_w1 rfl ?_
  refine mm_wv (vb_i 1) rfl (by decide) ?_
  refine mm_w1 rfl ?_
  refine mm_w1 rfl ?_
  refine mm_w1 rfl ?_
  refine mm_w1 rfl ?_
  refine mm_w1 rfl ?_
  refine mm_w1 rfl ?_
  refine mm_w1 rfl ?_
  refine mm_w1 rfl ?_
  refine mm_w1 rfl ?_
  refine mm_wv (vb_i 2) rfl (by decide) ?_
  refine mm_w1 rfl ?_
  refine mm_w1 rfl ?_
  refine mm_w1 rfl ?_
  refine mm_w1 rfl ?_
  refine mm_w1 rfl ?_
  refine mm_w1 rfl ?_
  refine mm_w1 rfl ?_
  refine mm_wv (vb_i 4) rfl (by decide) ?_
  refine mm_w1 rfl ?_
  refine mm_w1 rfl ?_
  refine mm_w1 rfl ?_
  refine mm_w1 rfl ?_
  refine mm_w1 rfl ?_
  refine mm_w1 rfl ?_
  refine mm_w1 rfl ?_
  refine mm_wv (vb_i 8) rfl (by decide) ?_
  refine mm_w1 rfl ?_
  refine mm_w1 rfl ?_
  refine mm_w1 rfl ?_
  refine mm_w1 rfl ?_
  refine mm_w1 rfl ?_
  refine mm_wv (vb_i 16) rfl (by decide) ?_
  refine mm_w1 rfl ?_
  refine mm_w1 rfl ?_
  refine mm_w1 rfl ?_
  refine mm_w1 rfl ?_
  refine mm_wv (vb_i 63) rfl (by decide) ?_
  refine mm_w1 rfl ?_
  refine mm_wr rfl rfl rfl ?_
  exact rfl
theorem vb_mask : ∀ n, n ≤ 10 → vb_bit n - vb_i 1 = vb_set n (fun _ => true) := by decide
theorem vb_wout {n : Nat} (hn : n ≤ 10) (t : Int32) : (vb_bit n - vb_i 1) &&& ~~~ t = vb_set n (fun v => !vb_has t v) := by
  rw [vb_mask n hn]
  apply vb_ext
  intro v hv
  rw [vb_has_and, vb_has_not _ hv, vb_has_set _ (by omega), vb_has_set _ (by omega), Bool.and_true]
theorem c_without {t : Int32} (hL : vb_isL P S L) (hD : vb_LD ℓ L I) : mm_Call G d 18 [.ref L, .int t] (I, P, J, S, nc, ns) (.inl (some (.int (vb_set (vb_n ℓ) (fun v => !vb_has t v)))), (I, P, J, S, nc, ns)) := by
  have hn := vl_10 hD
  refine mm_C.call ?_
  rw [← vb_wout hn]
  show mm_W _ _ 18 (mm_blk 18 0) [.ref L, .int t] [] _ _
  refine mm_wv (vb_i 1) rfl (by decide) ?_
  refine mm_w1 rfl ?_
  refine mm_wgiv (vb_i (vb_n ℓ)) (vL_S0 hL) (by decide) (by decide) (vl_n hD) ?_
  refine mm_nbit (by omega) ?_
  refine mm_wv (vb_i 1) rfl (by decide) ?_
  refine mm_w1 rfl ?_ 
  refine mm_w1 rfl ?_
  refine mm_wv (-1) rfl (by decide) ?_
  refine mm_nnot ?_
  refine mm_w1 rfl ?_
  refine mm_wr rfl rfl rfl ?_
  exact rfl
def vb_worth (ℓ : vb_L) (s : Int32) : Int32 := vb_sum (vb_n ℓ) (fun v => if vb_has s v then vb_wo ℓ v else 0)
theorem c_worthOf {s : Int32} (hL : vb_isL P S L) (hD : vb_LD ℓ L I) (hd : 1 ≤ d) : mm_Call G d 19 [.ref L, .int s] (I, P, J, S, nc, ns) (.inl (some (.int (vb_worth ℓ s))), (I, P, J, S, nc, ns)) := by
  have hn := vl_10 hD
  refine mm_C.call ?_
  have loop := vb_down (p := fun i => mm_W G d 19 (mm_blk 19 4) [.ref L, .int s, .int (vb_sum i (fun v => if vb_has s v then vb_wo ℓ v else 0)), .int (vb_i i)] [] (I, P, J, S, nc, ns) (fun q => q = (.inl (some (.int (vb_worth ℓ s))), (I, P, J, S, nc, ns)))) (vb_n ℓ) (by
    intro i hi ih
    refine mm_w1 rfl ?_
    refine mm_w1 rfl ?_
    refine mm_wgiv (vb_i (vb_n ℓ)) (vL_S0 hL) (by decide) (by decide) (vl_n hD) ?_
    refine mm_nicge (by omega) (by omega) ?_ ?_
    · intro h9
      refine mm_w1 rfl ?_
      refine mm_wr rfl rfl rfl ?_
      have e : i = vb_n ℓ := by omega
      subst e; exact rfl
    · intro h9
      refine mm_w1 rfl ?_
      refine mm_w1 rfl ?_
      refine mm_csp rfl (by decide) (by omega) (c_has (by omega)) ?_
      refine mm_bifeq ?_ ?_
      · intro h17
        refine mm_ninc 1 rfl (by decide) ?_
        refine mm_wgoto ?_
        have ih := ih (by omega)
        simp only [vb_sum, h17] at ih
        first | exact ih | (simp only [Bool.false_eq_true, if_false, Int32.add_zero] at ih; exact ih)
      · intro h17
        refine mm_w1 rfl ?_
        refine mm_w1 rfl ?_
        refine mm_wgr (vL_S0 hL) (by decide) (by decide) (vL_P0_4 hL) (vL_a1 hL) ?_
        refine mm_w1 rfl ?_
        refine mm_wiav _ (vL_a1 hL) (vL_S1 hL) (by decide) (by omega) (vl_wo hD (by omega)) ?_
        refine mm_w1 rfl ?_
        refine mm_w1 rfl ?_
        refine mm_ninc 1 rfl (by decide) ?_
        refine mm_wgoto ?_
        have ih := ih (by omega)
        simp only [vb_sum, h17] at ih
        first | exact ih | (simp only [Bool.false_eq_true, if_false, Int32.add_zero] at ih; exact ih)
    )
  show mm_W _ _ 19 (mm_blk 19 0) [.ref L, .int s, .null, .null] [] _ _
  refine mm_wv (vb_i 0) rfl (by decide) ?_
  refine mm_w1 rfl ?_
  refine mm_wv (vb_i 0) rfl (by decide) ?_
  refine mm_w1 rfl ?_
  exact loop 0 (by omega)
def vb_bes (ℓ : vb_L) (s : Int32) : Int32 := vb_set (vb_n ℓ) (fun u => (List.range (vb_n ℓ)).any (fun v => vb_has s v && vb_has (vb_nb ℓ v) u))
theorem vb_any {n : Nat} {p : Nat → Bool} : (List.range (n + 1)).any p = ((List.range n).any p || p n) := by
  rw [List.range_succ, List.any_append]; simp
theorem c_beside {s : Int32} (hL : vb_isL P S L) (hD : vb_LD ℓ L I) (hd : 1 ≤ d) : mm_Call G d 20 [.ref L, .int s] (I, P, J, S, nc, ns) (.inl (some (.int (vb_bes ℓ s))), (I, P, J, S, nc, ns)) := by
  have hn := vl_10 hD
  refine mm_C.call ?_
  have loop := vb_down (p := fun i => ∀ x : Int32, (∀ u, u < 32 → vb_has x u = (decide (u < vb_n ℓ) && (List.range i).any (fun v => vb_has s v && vb_has (vb_nb ℓ v) u))) → mm_W G d 20 (mm_blk 20 4) [.ref L, .int s, .int x, .int (vb_i i)] [] (I, P, J, S, nc, ns) (fun q => q = (.inl (some (.int (vb_bes ℓ s))), (I, P, J, S, nc, ns)))) (vb_n ℓ) (by
    intro i hi ih x hx
    refine mm_w1 rfl ?_
    refine mm_w1 rfl ?_
    refine mm_wgiv (vb_i (vb_n ℓ)) (vL_S0 hL) (by decide) (by decide) (vl_n hD) ?_
    refine mm_nicge (by omega) (by omega) ?_ ?_
    · intro h9
      refine mm_w1 rfl ?_
      refine mm_wr rfl rfl rfl ?_
      have e : i = vb_n ℓ := by omega
      subst e
      have : x = vb_bes ℓ s := vb_ext (fun u hu => by rw [hx u hu, vb_bes, vb_has_set _ (by omega)])
      rw [this]
    · intro h9
      refine mm_w1 rfl ?_
      refine mm_w1 rfl ?_
      refine mm_csp rfl (by decide) (by omega) (c_has (by omega)) ?_
      refine mm_bifeq ?_ ?_
      · intro h17
        refine mm_ninc 1 rfl (by decide) ?_
        refine mm_wgoto ?_
        refine ih (by omega) _ (fun u hu => ?_)
        rw [vb_any, h17]
        first
          | (rw [Bool.false_and, Bool.or_false]; exact hx u hu)
          | (rw [vb_has_or, hx u hu, Bool.true_and]
             cases e : vb_has (vb_nb ℓ i) u with
             | false => rw [Bool.or_false, Bool.or_false]
             | true => rw [decide_eq_true (vl_nbb hD (by omega) u e), Bool.or_true, Bool.true_and, Bool.or_true])
      · intro h17
        refine mm_w1 rfl ?_
        refine mm_w1 rfl ?_
        refine mm_wgr (vL_S0 hL) (by decide) (by decide) (vL_P0_6 hL) (vL_a3 hL) ?_
        refine mm_w1 rfl ?_
        refine mm_wiav _ (vL_a3 hL) (vL_S3 hL) (by decide) (by omega) (vl_nb hD (by omega)) ?_
        refine mm_w1 rfl ?_
        refine mm_w1 rfl ?_
        refine mm_ninc 1 rfl (by decide) ?_
        refine mm_wgoto ?_
        refine ih (by omega) _ (fun u hu => ?_)
        rw [vb_any, h17]
        first
          | (rw [Bool.false_and, Bool.or_false]; exact hx u hu)
          | (rw [vb_has_or, hx u hu, Bool.true_and]
             cases e : vb_has (vb_nb ℓ i) u with
             | false => rw [Bool.or_false, Bool.or_false]
             | true => rw [decide_eq_true (vl_nbb hD (by omega) u e), Bool.or_true, Bool.true_and, Bool.or_true])
    )
  show mm_W _ _ 20 (mm_blk 20 0) [.ref L, .int s, .null, .null] [] _ _
  refine mm_wv (vb_i 0) rfl (by decide) ?_
  refine mm_w1 rfl ?_
  refine mm_wv (vb_i 0) rfl (by decide) ?_
  refine mm_w1 rfl ?_
  exact loop 0 (by omega) _ (fun u _ => by rw [show (vb_i 0 : Int32) = 0 from rfl, vb_has_0]; simp)
def vb_grow (ℓ : vb_L) (g : Int32) : Nat → Int32 → Int32
  | 0, r => r
  | k + 1, r => vb_grow ℓ g k (r ||| (vb_bes ℓ r &&& g))
theorem c_reached {g r0 : Int32} (hL : vb_isL P S L) (hD : vb_LD ℓ L I) (hd : 2 ≤ d) : mm_Call G d 21 [.ref L, .int g, .int r0] (I, P, J, S, nc, ns) (.inl (some (.int (vb_grow ℓ g 10 r0))), (I, P, J, S, nc, ns)) := by
  have hn := vl_10 hD
  refine mm_C.call ?_
  have loop := vb_down (p := fun i => ∀ x : Int32, vb_grow ℓ g (10 - i) x = vb_grow ℓ g 10 r0 → mm_W G d 21 (mm_blk 21 5) [.ref L, .int g, .int r0, .int x, .int (vb_i i)] [] (I, P, J, S, nc, ns) (fun q => q = (.inl (some (.int (vb_grow ℓ g 10 r0))), (I, P, J, S, nc, ns)))) 10 (by
    intro i hi ih x hx
    refine mm_w1 rfl ?_
    refine mm_wv (vb_i 10) rfl (by decide) ?_
    refine mm_nicge (by omega) (by omega) ?_ ?_
    · intro h9
      refine mm_w1 rfl ?_
      refine mm_wr rfl rfl rfl ?_
      have e : i = 10 := by omega
      subst e
      rw [← hx]; rfl
    · intro h9
      refine mm_w1 rfl ?_
      refine mm_w1 rfl ?_
      refine mm_w1 rfl ?_
      refine mm_cvp (vb_cv (vL_S0 hL) rfl rfl rfl rfl) (by decide) (by omega) (c_beside hL hD (by omega)) ?_
      refine mm_w1 rfl ?_
      refine mm_w1 rfl ?_
      refine mm_w1 rfl ?_
      refine mm_w1 rfl ?_
      refine mm_ninc 1 rfl (by decide) ?_
      refine mm_wgoto ?_
      refine ih (by omega) _ ?_
      rw [← hx, show 10 - i = (10 - (i + 1)) + 1 by omega]; rfl
    )
  show mm_W _ _ 21 (mm_blk 21 0) [.ref L, .int g, .int r0, .null, .null] [] _ _
  refine mm_w1 rfl ?_
  refine mm_w1 rfl ?_
  refine mm_wv (vb_i 0) rfl (by decide) ?_
  refine mm_w1 rfl ?_
  exact loop 0 (by omega) _ rfl
def vb_gain (ℓ : vb_L) (to : Nat) (of ff : Int32) : Int32 := if vb_has of to then 0 else if vb_has ff to then vb_i 2 * vb_wo ℓ to else vb_wo ℓ to
theorem c_gain {to : Nat} {of ff : Int32} (hL : vb_isL P S L) (hD : vb_LD ℓ L I) (hd : 1 ≤ d) (ht : to < vb_n ℓ) : mm_Call G d 24 [.ref L, .int (vb_i to), .int of, .int ff] (I, P, J, S, nc, ns) (.inl (some (.int (vb_gain ℓ to of ff))), (I, P, J, S, nc, ns)) := by
  have hn := vl_10 hD
  refine mm_C.call ?_
  show mm_W _ _ 24 (mm_blk 24 0) [.ref L, .int (vb_i to), .int of, .int ff] [] _ _
  refine mm_w1 rfl ?_
  refine mm_w1 rfl ?_
  refine mm_csp rfl (by decide) (by omega) (c_has (by omega)) ?_
  refine mm_bifeq ?_ ?_
  · intro h5
    refine mm_w1 rfl ?_
    refine mm_w1 rfl ?_
    refine mm_csp rfl (by decide) (by omega) (c_has (by omega)) ?_
    refine mm_bifeq ?_ ?_
    · intro h17
      refine mm_w1 rfl ?_
      refine mm_wgr (vL_S0 hL) (by decide) (by decide) (vL_P0_4 hL) (vL_a1 hL) ?_
      refine mm_w1 rfl ?_
      refine mm_wiav _ (vL_a1 hL) (vL_S1 hL) (by decide) (by omega) (vl_wo hD (by omega)) ?_
      refine mm_wr rfl rfl rfl ?_
      simp only [vb_gain, h5]
      first | done | rfl | (simp only [h17]; rfl) | simp [h17]
    · intro h17
      refine mm_wv (vb_i 2) rfl (by decide) ?_
      refine mm_w1 rfl ?_
      refine mm_wgr (vL_S0 hL) (by decide) (by decide) (vL_P0_4 hL) (vL_a1 hL) ?_
      refine mm_w1 rfl ?_
      refine mm_wiav _ (vL_a1 hL) (vL_S1 hL) (by decide) (by omega) (vl_wo hD (by omega)) ?_
      refine mm_w1 rfl ?_
      refine mm_wgoto ?_
      refine mm_wr rfl rfl rfl ?_
      simp only [vb_gain, h5]
      first | done | rfl | (simp only [h17]; rfl) | simp [h17]
  · intro h5
    refine mm_wv (vb_i 0) rfl (by decide) ?_
    refine mm_wgoto ?_
    refine mm_wr rfl rfl rfl ?_
    simp only [vb_gain, h5]
    first | done | rfl | (simp only [h17]; rfl) | simp [h17]
end LAND
