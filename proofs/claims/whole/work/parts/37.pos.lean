/-! THE POSITION -/
section NROWS
variable {G : mm_G} {d k : Nat} {is : List mm_I} {ls st : List Value} {Q : mm_R → Prop} {I : Nat → Nat → Int32} {P : Nat → Nat → Nat} {J : Nat → Nat → Int64} {S : List (Nat × Nat)} {nc ns : Nat} {idx a ci slot w n t b j : Nat} {c v : Int32}
theorem mm_wpiN (hS : S[a]? = some (ci, n)) (hs : slot < n) (hf : mm_fk ci slot = 0) (kk : ∀ I', I' = mm_up I a slot v → mm_W G d k is ls st (I', P, J, S, nc, ns) Q) : mm_W G d k ((.putfield idx, ci, slot, w, c) :: is) ls (.int v :: .ref a :: st) (I, P, J, S, nc, ns) Q := mm_wpi hS hs hf (kk _ rfl)
theorem mm_wpzN (hS : S[a]? = some (ci, n)) (hs : slot < n) (hf : mm_fk ci slot = 1) (hv : v = 0 ∨ v = 1) (kk : ∀ I', I' = mm_up I a slot v → mm_W G d k is ls st (I', P, J, S, nc, ns) Q) : mm_W G d k ((.putfield idx, ci, slot, w, c) :: is) ls (.int v :: .ref a :: st) (I, P, J, S, nc, ns) Q := mm_wpz hS hs hf hv (kk _ rfl)
theorem mm_wisN (hS : S[a]? = some (100, n)) (hn : n ≤ 100000) (hj : j < n) (kk : ∀ I', I' = mm_up I a j v → mm_W G d k is ls st (I', P, J, S, nc, ns) Q) : mm_W G d k ((.iastore, t, b, w, c) :: is) ls (.int v :: .int (vb_i j) :: .ref a :: st) (I, P, J, S, nc, ns) Q := mm_wis hS hn hj (kk _ rfl)
theorem mm_wzsN (hS : S[a]? = some (101, n)) (hn : n ≤ 100000) (hj : j < n) (hv : v = 0 ∨ v = 1) (kk : ∀ I', I' = mm_up I a j v → mm_W G d k is ls st (I', P, J, S, nc, ns) Q) : mm_W G d k ((.bastore, t, b, w, c) :: is) ls (.int v :: .int (vb_i j) :: .ref a :: st) (I, P, J, S, nc, ns) Q := mm_wzs hS hn hj hv (kk _ rfl)
/-- what a copy leaves -/
def vb_cp (I I' : Nat → Nat → Int32) (a a2 sp dp q : Nat) : Prop := (∀ j, dp ≤ j → j < dp + q → I' a2 j = I a (sp + (j - dp))) ∧ (∀ j, ¬ (dp ≤ j ∧ j < dp + q) → I' a2 j = I a2 j) ∧ ∀ b, b ≠ a2 → I' b = I b
theorem mm_wcpyN {sp dp q : Nat} {a2 n2 : Nat} (hS : S[a]? = some (100, n)) (hS2 : S[a2]? = some (100, n2)) (hn : n ≤ 100000) (hn2 : n2 ≤ 100000) (h4 : sp + q ≤ n) (h5 : dp + q ≤ n2) (h6 : (st.map fun v => v.category).sum ≤ 8)
    (kk : ∀ I', vb_cp I I' a a2 sp dp q → mm_W G d k is ls st (I', P, J, S, nc, ns) Q) : mm_W G d k ((.invokestatic idx, 9003, b, w, c) :: is) ls (.int (vb_i q) :: .int (vb_i dp) :: .ref a2 :: .int (vb_i sp) :: .ref a :: st) (I, P, J, S, nc, ns) Q := by
  refine mm_wcpy hS hS2 hn hn2 h4 h5 h6 (kk _ ⟨?_, ?_, ?_⟩)
  · intro j h1 h2; simp only [if_true, va_cpy]; rw [if_pos ⟨h1, h2⟩]
  · intro j h1; simp only [if_true, va_cpy]; rw [if_neg h1]
  · intro b hb; simp only [if_neg hb]
theorem vb_has_i (e : Nat) {v : Nat} (hv : v < 32) : vb_has (vb_i e) v = e.testBit v := by
  simp only [vb_has, vb_i]
  show (BitVec.ofNat 32 e).getLsbD v = _
  rw [BitVec.getLsbD_ofNat, decide_eq_true hv, Bool.true_and]
theorem vb_and1 (e : Nat) (_ : e < 4096) : vb_i e &&& vb_i 1 = vb_i (e % 2) := by
  apply vb_ext
  intro v hv
  rw [vb_has_and, vb_has_i _ hv, vb_has_i _ hv, vb_has_i _ hv, ← Nat.testBit_and, Nat.and_one_is_mod]
theorem mm_nand1 {i : Nat} (hi : i < 4096) (kk : mm_W G d k is ls (.int (vb_i (i % 2)) :: st) (I, P, J, S, nc, ns) Q) : mm_W G d k ((.iand, t, b, w, c) :: is) ls (.int (vb_i 1) :: .int (vb_i i) :: st) (I, P, J, S, nc, ns) Q := mm_wv (vb_i (i % 2)) rfl (vb_and1 i hi) kk
end NROWS
def vb_ag (n : Nat) (f g : Nat → Int32) : Prop := ∀ j, j < n → f j = g j
/-- a position: stones, flags, treasuries, styles, the book, the evening -/
abbrev vb_X : Type := (Nat → Int32) × (Nat → Int32) × (Nat → Int32) × (Nat → Int32) × (Nat → Int32) × Nat
def vx_s (x : vb_X) : Nat → Int32 := x.1
def vx_f (x : vb_X) : Nat → Int32 := x.2.1
def vx_t (x : vb_X) : Nat → Int32 := x.2.2.1
def vx_y (x : vb_X) : Nat → Int32 := x.2.2.2.1
def vx_b (x : vb_X) : Nat → Int32 := x.2.2.2.2.1
def vx_e (x : vb_X) : Nat := x.2.2.2.2.2
def vx_tn (x : vb_X) : Nat := vx_e x % 2
def vb_XD (x : vb_X) (X : Nat) (I : Nat → Nat → Int32) : Prop := vb_ag 2 (I (X + 1)) (vx_s x) ∧ vb_ag 2 (I (X + 2)) (vx_f x) ∧ vb_ag 2 (I (X + 3)) (vx_t x) ∧ vb_ag 2 (I (X + 4)) (vx_y x) ∧ vb_ag 20 (I (X + 5)) (vx_b x) ∧ I X 5 = vb_i (vx_e x) ∧ vx_e x ≤ 2000
def vb_xc (X a : Nat) : Prop := X ≤ a ∧ a < X + 6
section
variable {x : vb_X} {X : Nat} {I I' : Nat → Nat → Int32} {F : Nat → Prop} {ℓ : vb_L} {L : Nat}
theorem vx_hs (h : vb_XD x X I) {j : Nat} (hj : j < 2) : I (X + 1) j = vx_s x j := h.1 j hj
theorem vx_hf (h : vb_XD x X I) {j : Nat} (hj : j < 2) : I (X + 2) j = vx_f x j := h.2.1 j hj
theorem vx_ht (h : vb_XD x X I) {j : Nat} (hj : j < 2) : I (X + 3) j = vx_t x j := h.2.2.1 j hj
theorem vx_hy (h : vb_XD x X I) {j : Nat} (hj : j < 2) : I (X + 4) j = vx_y x j := h.2.2.2.1 j hj
theorem vx_hb (h : vb_XD x X I) {j : Nat} (hj : j < 20) : I (X + 5) j = vx_b x j := h.2.2.2.2.1 j hj
theorem vx_he (h : vb_XD x X I) : I X 5 = vb_i (vx_e x) := h.2.2.2.2.2.1
theorem vx_e2 (h : vb_XD x X I) : vx_e x ≤ 2000 := h.2.2.2.2.2.2
theorem vx_t2 (x : vb_X) : vx_tn x < 2 := by simp only [vx_tn]; omega
theorem vb_XD.kp (h : vb_XD x X I) (e : ∀ j, j < 6 → I' (X + j) = I (X + j)) : vb_XD x X I' := by
  have e0 : I' X = I X := e 0 (by decide)
  simp only [vb_XD, e0, e 1 (by decide), e 2 (by decide), e 3 (by decide), e 4 (by decide), e 5 (by decide)]
  exact h
theorem vb_XD.fr (h : vb_XD x X I) (hf : vb_fr F I I') (hd : ∀ j, j < 6 → ¬ F (X + j)) : vb_XD x X I' := h.kp (fun j hj => hf _ (hd j hj))
theorem vb_LD.kp (h : vb_LD ℓ L I) (hf : vb_fr F I I') (hd : ∀ j, j < 12 → F (L + j) → j = 5 ∨ j = 10 ∨ j = 11) : vb_LD ℓ L I' := by
  have e : ∀ j, j < 12 → ¬ (j = 5 ∨ j = 10 ∨ j = 11) → I' (L + j) = I (L + j) := fun j h1 hj => hf _ (fun h2 => hj (hd j h1 h2))
  have e0 : I' L = I L := e 0 (by decide) (by decide)
  simp only [vb_LD, e0, e 1 (by decide) (by decide), e 2 (by decide) (by decide), e 3 (by decide) (by decide), e 7 (by decide) (by decide), e 8 (by decide) (by decide), e 9 (by decide) (by decide)]
  exact h
end
/-- whose is in a village -/
def vx_in (f : Nat → Int32) (v : Nat) : Nat := if vb_has (f 0) v then 0 else if vb_has (f 1) v then 1 else 2
theorem vx_in2 (f : Nat → Int32) (v : Nat) : vx_in f v ≤ 2 := by simp only [vx_in]; split; omega; split <;> omega
def vx_bring (x : vb_X) (side fr to : Nat) : vb_X := (fun j => if j = side then (vx_s x j &&& ~~~ vb_bit fr) ||| vb_bit to else vx_s x j &&& ~~~ vb_bit to, fun j => if j = side then vx_f x j ||| vb_bit to else vx_f x j &&& ~~~ vb_bit to, vx_t x, vx_y x, vx_b x, vx_e x)
def vx_cap (a : Int32) : Int32 := if a < vb_i 9999 then a else vb_i 9999
/-- a village pays -/
def vx_pay1 (ℓ : vb_L) (x : vb_X) (v : Nat) : vb_X := if vx_in (vx_f x) v = 2 then x else (vx_s x, vx_f x, fun j => if j = vx_in (vx_f x) v then vx_cap (vx_t x j + vb_wo ℓ v) else vx_t x j, vx_y x, fun j => if j = 10 * vx_in (vx_f x) v + v then vx_b x j + vb_i 1 else vx_b x j, vx_e x)
def vx_pay (ℓ : vb_L) (x : vb_X) : Nat → vb_X
  | 0 => x
  | v + 1 => vx_pay1 ℓ (vx_pay ℓ x v) v
def vx_end (ℓ : vb_L) (x : vb_X) : vb_X := let y := vx_pay ℓ x (vb_n ℓ); (vx_s y, vx_f y, vx_t y, vx_y y, vx_b y, vx_e y + 1)
def vx_do (ℓ : vb_L) (x : vb_X) (m : Nat) : vb_X := vx_end ℓ (if m = 100 then x else vx_bring x (vx_tn x) (m / 10) (m % 10))
def vx_ms (ℓ : vb_L) (x : vb_X) : List Nat := vb_ms ℓ (vx_s x (vx_tn x)) (vx_s x (1 - vx_tn x)) (vb_i (vx_e x))
/-- what a style gives -/
def vx_g (ℓ : vb_L) (x : vb_X) (m : Nat) : Int32 := vb_ru ℓ (vx_y x (vx_tn x)).toNatClampNeg (vb_val ℓ (vx_s x (vx_tn x)) (vx_s x (1 - vx_tn x)) (vx_f x (vx_tn x)) (m / 10) (m % 10) (vb_i (vx_e x)))
def vx_pick (g : Nat → Int32) (l : List Nat) (b : Nat × Int32) : Nat × Int32 := l.foldl (fun b m => if b.2 < g m then (m, g m) else b) b
def vx_by (ℓ : vb_L) (x : vb_X) : Nat := if vx_y x (vx_tn x) = -1 then 100 else (vx_pick (vx_g ℓ x) (vx_ms ℓ x) (100, 0)).1
def vx_play (ℓ : vb_L) (x : vb_X) : vb_X := vx_do ℓ x (vx_by ℓ x)
def vb_told (m : Nat) : Int32 := if m = 100 then -1 else vb_i (vb_mv m)
/-- styles that there are -/
def vx_ok (ℓ : vb_L) (x : vb_X) : Prop := ∀ j, j < 2 → vx_y x j = -1 ∨ ∃ r, r < vb_sc ℓ ∧ vx_y x j = vb_i r
theorem vx_pay_e (ℓ : vb_L) (x : vb_X) (i : Nat) : vx_e (vx_pay ℓ x i) = vx_e x := by
  induction i with
  | zero => rfl
  | succ i ih => simp only [vx_pay, vx_pay1]; split; exact ih; exact ih
theorem vx_pay_y (ℓ : vb_L) (x : vb_X) (i : Nat) : vx_y (vx_pay ℓ x i) = vx_y x := by
  induction i with
  | zero => rfl
  | succ i ih => simp only [vx_pay, vx_pay1]; split; exact ih; exact ih
theorem vx_pay_s (ℓ : vb_L) (x : vb_X) (i : Nat) : vx_s (vx_pay ℓ x i) = vx_s x := by
  induction i with
  | zero => rfl
  | succ i ih => simp only [vx_pay, vx_pay1]; split; exact ih; exact ih
theorem vx_pay_f (ℓ : vb_L) (x : vb_X) (i : Nat) : vx_f (vx_pay ℓ x i) = vx_f x := by
  induction i with
  | zero => rfl
  | succ i ih => simp only [vx_pay, vx_pay1]; split; exact ih; exact ih
theorem vx_end_e (ℓ : vb_L) (x : vb_X) : vx_e (vx_end ℓ x) = vx_e x + 1 := by
  show vx_e (vx_pay ℓ x (vb_n ℓ)) + 1 = _
  rw [vx_pay_e]
theorem vx_end_y (ℓ : vb_L) (x : vb_X) : vx_y (vx_end ℓ x) = vx_y x := vx_pay_y ℓ x _
theorem vx_end_s (ℓ : vb_L) (x : vb_X) : vx_s (vx_end ℓ x) = vx_s x := vx_pay_s ℓ x _
theorem vx_end_f (ℓ : vb_L) (x : vb_X) : vx_f (vx_end ℓ x) = vx_f x := vx_pay_f ℓ x _
theorem vx_do_e (ℓ : vb_L) (x : vb_X) (m : Nat) : vx_e (vx_do ℓ x m) = vx_e x + 1 := by
  simp only [vx_do, vx_end_e]; split <;> rfl
theorem vx_do_y (ℓ : vb_L) (x : vb_X) (m : Nat) : vx_y (vx_do ℓ x m) = vx_y x := by
  simp only [vx_do, vx_end_y]; split <;> rfl
theorem vx_ok.mv {ℓ : vb_L} {x : vb_X} (h : vx_ok ℓ x) (m : Nat) : vx_ok ℓ (vx_do ℓ x m) := by
  intro j hj; rw [vx_do_y]; exact h j hj
theorem vb_ms_lt {ℓ : vb_L} {own foe ev : Int32} {m : Nat} (h : m ∈ vb_ms ℓ own foe ev) : m < 100 ∧ m / 10 < vb_n ℓ ∧ m % 10 < vb_n ℓ := by
  simp only [vb_ms, vb_rs, List.mem_filter, List.mem_range', vb_q, Bool.and_eq_true, decide_eq_true_eq] at h
  obtain ⟨⟨i, h1, h2⟩, ⟨⟨h3, h4⟩, _⟩, _⟩ := h
  exact ⟨by omega, h3, h4⟩
theorem vb_told_lt {m : Nat} (h : m < 100) : vb_told m = vb_i (100 * (m / 10) + m % 10) := by
  simp only [vb_told, vb_mv]; rw [if_neg (by omega)]
section POS
variable {G : mm_G} {d : Nat} {I : Nat → Nat → Int32} {P : Nat → Nat → Nat} {J : Nat → Nat → Int64} {S : List (Nat × Nat)} {nc ns : Nat} {μ : mm_M} {ℓ : vb_L} {L : Nat}
variable {x : vb_X} {X : Nat}
theorem c_turn (hX : vb_isX P S X) (dX : vb_XD x X I) : mm_Call G d 34 [.ref X] (I, P, J, S, nc, ns) (.inl (some (.int (vb_i (vx_tn x)))), (I, P, J, S, nc, ns)) := by
  have he := vx_e2 dX
  refine mm_C.call ?_
  show mm_W _ _ 34 (mm_blk 34 0) [.ref X] [] _ _
  refine mm_w1 rfl ?_
  refine mm_wgiv _ (vX_S0 hX) (by decide) (by decide) (vx_he dX) ?_
  refine mm_wv (vb_i 1) rfl (by decide) ?_
  refine mm_nand1 (by omega) ?_
  refine mm_wr rfl rfl rfl ?_
  exact rfl
theorem c_all (hX : vb_isX P S X) (dX : vb_XD x X I) : mm_Call G d 35 [.ref X] (I, P, J, S, nc, ns) (.inl (some (.int (vx_s x 0 ||| vx_s x 1))), (I, P, J, S, nc, ns)) := by
  refine mm_C.call ?_
  show mm_W _ _ 35 (mm_blk 35 0) [.ref X] [] _ _
  refine mm_w1 rfl ?_
  refine mm_wgr (vX_S0 hX) (by decide) (by decide) (vX_P0_0 hX) (vX_a1 hX) ?_
  refine mm_wv (vb_i 0) rfl (by decide) ?_
  refine mm_wiav _ (vX_a1 hX) (vX_S1 hX) (by decide) (by omega) (vx_hs dX (by omega)) ?_
  refine mm_w1 rfl ?_
  refine mm_wgr (vX_S0 hX) (by decide) (by decide) (vX_P0_0 hX) (vX_a1 hX) ?_
  refine mm_wv (vb_i 1) rfl (by decide) ?_
  refine mm_wiav _ (vX_a1 hX) (vX_S1 hX) (by decide) (by omega) (vx_hs dX (by omega)) ?_
  refine mm_w1 rfl ?_
  refine mm_wr rfl rfl rfl ?_
  exact rfl
theorem c_stoneIn (hX : vb_isX P S X) (dX : vb_XD x X I) {v : Nat} (hv : v < 32) (hd : 1 ≤ d) : mm_Call G d 36 [.ref X, .int (vb_i v)] (I, P, J, S, nc, ns) (.inl (some (.int (vb_i (vx_in (vx_s x) v)))), (I, P, J, S, nc, ns)) := by
  refine mm_C.call ?_
  show mm_W _ _ 36 (mm_blk 36 0) [.ref X, .int (vb_i v)] [] _ _
  refine mm_w1 rfl ?_
  refine mm_wgr (vX_S0 hX) (by decide) (by decide) (vX_P0_0 hX) (vX_a1 hX) ?_
  refine mm_wv (vb_i 0) rfl (by decide) ?_
  refine mm_wiav _ (vX_a1 hX) (vX_S1 hX) (by decide) (by omega) (vx_hs dX (by omega)) ?_
  refine mm_w1 rfl ?_
  refine mm_csp rfl (by decide) (by omega) (c_has (by omega)) ?_
  refine mm_bifeq ?_ ?_
  · intro h10
    refine mm_w1 rfl ?_
    refine mm_wgr (vX_S0 hX) (by decide) (by decide) (vX_P0_0 hX) (vX_a1 hX) ?_
    refine mm_wv (vb_i 1) rfl (by decide) ?_
    refine mm_wiav _ (vX_a1 hX) (vX_S1 hX) (by decide) (by omega) (vx_hs dX (by omega)) ?_
    refine mm_w1 rfl ?_
    refine mm_csp rfl (by decide) (by omega) (c_has (by omega)) ?_
    refine mm_bifeq ?_ ?_
    · intro h27
      refine mm_wv (vb_i 2) rfl (by decide) ?_
      refine mm_wr rfl rfl rfl ?_
      simp only [vx_in, h10]; first | rfl | (simp only [h27]; rfl)
    · intro h27
      refine mm_wv (vb_i 1) rfl (by decide) ?_
      refine mm_wgoto ?_
      refine mm_wr rfl rfl rfl ?_
      simp only [vx_in, h10]; first | rfl | (simp only [h27]; rfl)
  · intro h10
    refine mm_wv (vb_i 0) rfl (by decide) ?_
    refine mm_wgoto ?_
    refine mm_wr rfl rfl rfl ?_
    simp only [vx_in, h10]; first | rfl | (simp only [h27]; rfl)
theorem c_flagOf (hX : vb_isX P S X) (dX : vb_XD x X I) {v : Nat} (hv : v < 32) (hd : 1 ≤ d) : mm_Call G d 37 [.ref X, .int (vb_i v)] (I, P, J, S, nc, ns) (.inl (some (.int (vb_i (vx_in (vx_f x) v)))), (I, P, J, S, nc, ns)) := by
  refine mm_C.call ?_
  show mm_W _ _ 37 (mm_blk 37 0) [.ref X, .int (vb_i v)] [] _ _
  refine mm_w1 rfl ?_
  refine mm_wgr (vX_S0 hX) (by decide) (by decide) (vX_P0_1 hX) (vX_a2 hX) ?_
  refine mm_wv (vb_i 0) rfl (by decide) ?_
  refine mm_wiav _ (vX_a2 hX) (vX_S2 hX) (by decide) (by omega) (vx_hf dX (by omega)) ?_
  refine mm_w1 rfl ?_
  refine mm_csp rfl (by decide) (by omega) (c_has (by omega)) ?_
  refine mm_bifeq ?_ ?_
  · intro h10
    refine mm_w1 rfl ?_
    refine mm_wgr (vX_S0 hX) (by decide) (by decide) (vX_P0_1 hX) (vX_a2 hX) ?_
    refine mm_wv (vb_i 1) rfl (by decide) ?_
    refine mm_wiav _ (vX_a2 hX) (vX_S2 hX) (by decide) (by omega) (vx_hf dX (by omega)) ?_
    refine mm_w1 rfl ?_
    refine mm_csp rfl (by decide) (by omega) (c_has (by omega)) ?_
    refine mm_bifeq ?_ ?_
    · intro h27
      refine mm_wv (vb_i 2) rfl (by decide) ?_
      refine mm_wr rfl rfl rfl ?_
      simp only [vx_in, h10]; first | rfl | (simp only [h27]; rfl)
    · intro h27
      refine mm_wv (vb_i 1) rfl (by decide) ?_
      refine mm_wgoto ?_
      refine mm_wr rfl rfl rfl ?_
      simp only [vx_in, h10]; first | rfl | (simp only [h27]; rfl)
  · intro h10
    refine mm_wv (vb_i 0) rfl (by decide) ?_
    refine mm_wgoto ?_
    refine mm_wr rfl rfl rfl ?_
    simp only [vx_in, h10]; first | rfl | (simp only [h27]; rfl)
theorem c_bring {side fr to : Nat} (hX : vb_isX P S X) (dX : vb_XD x X I) (hs : side < 2) (hfr : fr < 32) (hto : to < 32) : mm_C G d 38 [.ref X, .int (vb_i side), .int (vb_i (100 * fr + to))] (I, P, J, S, nc, ns) (vb_R none (fun I' => vb_XD (vx_bring x side fr to) X I' ∧ vb_fr (vb_xc X) I I') P J S nc ns) := by
  obtain ⟨e1, e2⟩ := vb_m100 (a := fr) (b := to) (by omega)
  have hs2 : side = 0 ∨ side = 1 := by omega
  have hx := dX
  obtain ⟨a1, a2, a3, a4, a5, a6, a7⟩ := hx
  have s0 := a1 0 (by decide)
  have s1 := a1 1 (by decide)
  have f0 := a2 0 (by decide)
  have f1 := a2 1 (by decide)
  rcases hs2 with rfl | rfl
  all_goals
    show mm_W _ _ 38 (mm_blk 38 0) [.ref X, .int (vb_i _), .int (vb_i (100 * fr + to)), .null] [] _ _
    refine mm_wv (vb_i 1) rfl (by decide) ?_
    refine mm_w1 rfl ?_
    refine mm_wv (vb_i 100) rfl (by decide) ?_
    refine mm_nrem (by omega) (by omega) (by omega) ?_
    rw [e2] 
    refine mm_nbit (by omega) ?_
    refine mm_w1 (ls' := [_, _, _, _]) rfl ?_
    refine mm_w1 rfl ?_
    refine mm_wgr (vX_S0 hX) (by decide) (by decide) (vX_P0_0 hX) (vX_a1 hX) ?_
    refine mm_w1 rfl ?_
    refine mm_w1 rfl ?_
    refine mm_wgr (vX_S0 hX) (by decide) (by decide) (vX_P0_0 hX) (vX_a1 hX) ?_
    refine mm_w1 rfl ?_
    refine mm_wiav _ (vX_a1 hX) (vX_S1 hX) (by decide) (by omega) rfl ?_
    refine mm_wv (vb_i 1) rfl (by decide) ?_
    refine mm_w1 rfl ?_
    refine mm_wv (vb_i 100) rfl (by decide) ?_
    refine mm_ndiv (by omega) (by omega) (by omega) ?_
    rw [e1] 
    refine mm_nbit (by omega) ?_
    refine mm_wv (-1) rfl (by decide) ?_
    refine mm_nnot ?_
    refine mm_w1 rfl ?_
    refine mm_w1 rfl ?_
    refine mm_w1 rfl ?_
    refine mm_wis (vX_S1 hX) (by decide) (by omega) ?_
    refine mm_w1 rfl ?_
    refine mm_wgr (vX_S0 hX) (by decide) (by decide) (vX_P0_0 hX) (vX_a1 hX) ?_
    refine mm_wv (vb_i 1) rfl (by decide) ?_
    refine mm_w1 rfl ?_
    refine mm_nsub (by omega) ?_
    refine mm_w1 rfl ?_
    refine mm_wiav _ (vX_a1 hX) (vX_S1 hX) (by decide) (by omega) rfl ?_
    refine mm_w1 rfl ?_
    refine mm_wv (-1) rfl (by decide) ?_
    refine mm_nnot ?_
    refine mm_w1 rfl ?_
    refine mm_wis (vX_S1 hX) (by decide) (by omega) ?_
    refine mm_w1 rfl ?_
    refine mm_wgr (vX_S0 hX) (by decide) (by decide) (vX_P0_1 hX) (vX_a2 hX) ?_
    refine mm_w1 rfl ?_
    refine mm_w1 rfl ?_
    refine mm_wiav _ (vX_a2 hX) (vX_S2 hX) (by decide) (by omega) rfl ?_
    refine mm_w1 rfl ?_
    refine mm_w1 rfl ?_
    refine mm_wis (vX_S2 hX) (by decide) (by omega) ?_
    refine mm_w1 rfl ?_
    refine mm_wgr (vX_S0 hX) (by decide) (by decide) (vX_P0_1 hX) (vX_a2 hX) ?_
    refine mm_wv (vb_i 1) rfl (by decide) ?_
    refine mm_w1 rfl ?_
    refine mm_nsub (by omega) ?_
    refine mm_w1 rfl ?_
    refine mm_wiav _ (vX_a2 hX) (vX_S2 hX) (by decide) (by omega) rfl ?_
    refine mm_w1 rfl ?_
    refine mm_wv (-1) rfl (by decide) ?_
    refine mm_nnot ?_
    refine mm_w1 rfl ?_
    refine mm_wis (vX_S2 hX) (by decide) (by omega) ?_
    refine mm_wr rfl rfl rfl ?_
    refine ⟨_, ⟨⟨?_, ?_, ?_, ?_, ?_, ?_, a7⟩, ?_⟩, rfl⟩
    · intro j hj
      have hj2 : j = 0 ∨ j = 1 := by omega
      rcases hj2 with rfl | rfl <;> simp [mm_up, vx_bring, vx_s, s0, s1] <;> first | rfl | simp [s0, s1, vx_s]
    · intro j hj
      have hj2 : j = 0 ∨ j = 1 := by omega
      rcases hj2 with rfl | rfl <;> simp [mm_up, vx_bring, vx_f, f0, f1] <;> first | rfl | simp [f0, f1, vx_f]
    · intro j hj; simp [mm_up]; exact a3 j hj
    · intro j hj; simp [mm_up]; exact a4 j hj
    · intro j hj; simp [mm_up]; exact a5 j hj
    · simp [mm_up]; exact a6
    · exact (((vb_fr.rf.up ⟨by omega, by omega⟩).up ⟨by omega, by omega⟩).up ⟨by omega, by omega⟩).up ⟨by omega, by omega⟩
theorem c_end (hX : vb_isX P S X) (hL : vb_isL P S L) (dX : vb_XD x X I) (dL : vb_LD ℓ L I) (hd : 2 ≤ d) (hLX : L + 12 ≤ X ∨ X + 6 ≤ L) (he : vx_e x < 2000) : mm_C G d 39 [.ref X, .ref L] (I, P, J, S, nc, ns) (vb_R none (fun I' => vb_XD (vx_end ℓ x) X I' ∧ vb_fr (vb_xc X) I I') P J S nc ns) := by
  have hn := vl_10 dL
  have loop := vb_down (p := fun i => ∀ (I1 : Nat → Nat → Int32) (x3 : Value), x3.category = 1 → vb_XD (vx_pay ℓ x i) X I1 → vb_fr (vb_xc X) I I1 → mm_W G d 39 (mm_blk 39 2) [.ref X, .ref L, .int (vb_i i), x3] [] (I1, P, J, S, nc, ns) (vb_R none (fun I' => vb_XD (vx_end ℓ x) X I' ∧ vb_fr (vb_xc X) I I') P J S nc ns)) (vb_n ℓ) (by
    intro i hi ih I1 x3 h3 dX1 hf1
    have dL1 : vb_LD ℓ L I1 := dL.kp hf1 (fun j h1 h2 => by simp only [vb_xc] at h2; omega)
    have hv2 := vx_in2 (vx_f (vx_pay ℓ x i)) i
    have a7 := vx_e2 dX1
    refine mm_w1 rfl ?_
    refine mm_w1 rfl ?_
    refine mm_wgiv _ (vL_S0 hL) (by decide) (by decide) (vl_n dL1) ?_
    refine mm_nicge (by omega) (by omega) ?_ ?_
    · intro h7
      refine mm_w1 rfl ?_
      refine mm_w1 rfl ?_
      refine mm_wgiv _ (vX_S0 hX) (by decide) (by decide) (vx_he dX1) ?_
      refine mm_wv (vb_i 1) rfl (by decide) ?_
      refine mm_nadd ?_
      refine mm_wpi (vX_S0 hX) (by decide) (by decide) ?_
      refine mm_wr rfl rfl rfl ?_
      have e : i = vb_n ℓ := by omega
      subst e
      obtain ⟨a1, a2, a3, a4, a5, a6, _⟩ := dX1
      refine ⟨_, ⟨⟨?_, ?_, ?_, ?_, ?_, ?_, ?_⟩, ?_⟩, rfl⟩
      · intro j hj; rw [vb_up3 _ _ (by omega)]; exact a1 j hj
      · intro j hj; rw [vb_up3 _ _ (by omega)]; exact a2 j hj
      · intro j hj; rw [vb_up3 _ _ (by omega)]; exact a3 j hj
      · intro j hj; rw [vb_up3 _ _ (by omega)]; exact a4 j hj
      · intro j hj; rw [vb_up3 _ _ (by omega)]; exact a5 j hj
      · rw [vb_up1]; rfl
      · rw [vx_end_e]; omega
      · exact hf1.up ⟨by omega, by omega⟩
    · intro h7
      refine mm_w1 rfl ?_
      refine mm_w1 rfl ?_
      refine mm_cvp (vb_cv (vX_S0 hX) rfl rfl rfl rfl) (by decide) (by omega) (c_flagOf hX dX1 (by omega) (by omega)) ?_
      refine mm_w1 (ls' := [_, _, _, _]) rfl ?_
      refine mm_w1 rfl ?_
      refine mm_wv (vb_i 2) rfl (by decide) ?_
      refine mm_niceq (by omega) (by omega) ?_ ?_
      · intro h18
        refine mm_ninc 1 rfl (by decide) ?_
        refine mm_wgoto ?_
        refine ih (by omega) I1 _ rfl ?_ hf1
        simp only [vx_pay, vx_pay1]; rw [if_pos h18]; exact dX1
      · intro h18
        refine mm_w1 rfl ?_
        refine mm_wgr (vX_S0 hX) (by decide) (by decide) (vX_P0_2 hX) (vX_a3 hX) ?_
        refine mm_w1 rfl ?_
        refine mm_wv (vb_i 9999) rfl (by decide) ?_
        refine mm_w1 rfl ?_
        refine mm_wgr (vX_S0 hX) (by decide) (by decide) (vX_P0_2 hX) (vX_a3 hX) ?_
        refine mm_w1 rfl ?_
        refine mm_wiav _ (vX_a3 hX) (vX_S3 hX) (by decide) (by omega) (vx_ht dX1 (by omega)) ?_
        refine mm_w1 rfl ?_
        refine mm_wgr (vL_S0 hL) (by decide) (by decide) (vL_P0_4 hL) (vL_a1 hL) ?_
        refine mm_w1 rfl ?_
        refine mm_wiav _ (vL_a1 hL) (vL_S1 hL) (by decide) (by omega) (vl_wo dL1 (by omega)) ?_
        refine mm_w1 rfl ?_
        refine mm_w1 rfl ?_
        refine mm_wisN (vX_S3 hX) (by decide) (by omega) ?_
        intro I2 hI2
        have g5 : ∀ j, j < 20 → I2 (X + 5) j = vx_b (vx_pay ℓ x i) j := fun j hj => by rw [hI2, vb_up3 _ _ (by omega)]; exact vx_hb dX1 hj
        refine mm_w1 rfl ?_
        refine mm_wgr (vX_S0 hX) (by decide) (by decide) (vX_P0_4 hX) (vX_a5 hX) ?_
        refine mm_wv (vb_i 10) rfl (by decide) ?_
        refine mm_w1 rfl ?_
        refine mm_nmul ?_
        refine mm_w1 rfl ?_
        refine mm_nadd ?_
        refine mm_w1 rfl ?_
        refine mm_wiav _ (vX_a5 hX) (vX_S5 hX) (by decide) (by omega) (g5 _ (by omega)) ?_
        refine mm_wv (vb_i 1) rfl (by decide) ?_
        refine mm_w1 rfl ?_
        refine mm_wis (vX_S5 hX) (by decide) (by omega) ?_
        refine mm_nincL (ls' := [_, _, _, _]) 1 rfl (by decide) rfl ?_
        refine mm_wgoto ?_
        refine ih (by omega) _ _ rfl ?_ ?_
        · obtain ⟨a1, a2, a3, a4, a5, a6, _⟩ := dX1
          simp only [vx_pay, vx_pay1]; rw [if_neg h18, hI2]
          refine ⟨?_, ?_, ?_, ?_, ?_, ?_, a7⟩
          · intro j hj; rw [vb_up3 _ _ (by omega), vb_up3 _ _ (by omega)]; exact a1 j hj
          · intro j hj; rw [vb_up3 _ _ (by omega), vb_up3 _ _ (by omega)]; exact a2 j hj
          · intro j hj
            rw [vb_up3 _ _ (by omega)]
            by_cases hj2 : j = vx_in (vx_f (vx_pay ℓ x i)) i
            · subst hj2
              rw [vb_up1]
              show _ = if _ = _ then _ else _
              rw [if_pos rfl]; rfl
            · rw [vb_up2 _ _ (by omega), a3 j hj]
              show _ = if _ = _ then _ else _
              rw [if_neg hj2]
          · intro j hj; rw [vb_up3 _ _ (by omega), vb_up3 _ _ (by omega)]; exact a4 j hj
          · intro j hj
            by_cases hj2 : j = 10 * vx_in (vx_f (vx_pay ℓ x i)) i + i
            · subst hj2
              rw [vb_up1]
              show _ = if _ = _ then _ else _
              rw [if_pos rfl]
            · rw [vb_up2 _ _ (by omega), vb_up3 _ _ (by omega), a5 j hj]
              show _ = if _ = _ then _ else _
              rw [if_neg hj2]
          · rw [vb_up3 _ _ (by omega), vb_up3 _ _ (by omega)]; exact a6
        · rw [hI2]; exact (hf1.up ⟨by omega, by omega⟩).up ⟨by omega, by omega⟩ 
    )
  show mm_W _ _ 39 (mm_blk 39 0) [.ref X, .ref L, .null, .null] [] _ _
  refine mm_wv (vb_i 0) rfl (by decide) ?_
  refine mm_w1 (ls' := [_, _, _, _]) rfl ?_
  exact loop 0 (by omega) I _ rfl dX vb_fr.rf
end POS
