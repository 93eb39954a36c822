/-! COUPLES OF STYLES -/
def vx_sty (x : vb_X) (a b : Nat) : vb_X := (vx_s x, vx_f x, vx_t x, fun j => if j = 0 then vb_i a else vb_i b, vx_b x, vx_e x)
def vx_seq (ℓ : vb_L) (x : vb_X) : Nat → vb_X
  | 0 => x
  | k + 1 => vx_play ℓ (vx_seq ℓ x k)
def vx_mvs (ℓ : vb_L) (x : vb_X) (k : Nat) : Nat := vx_by ℓ (vx_seq ℓ x k)
def vc_q (ℓ : vb_L) (x : vb_X) (ss : List (Nat × Nat)) (m : Nat) : Bool := decide (m / 10 < vb_sc ℓ) && decide (m % 10 < vb_sc ℓ) && ss.all (fun p => vx_mvs ℓ (vx_sty x (m / 10) (m % 10)) p.1 == p.2)
def vc_fit (ℓ : vb_L) (x : vb_X) (ss : List (Nat × Nat)) : List Nat := vb_rs (vc_q ℓ x ss) 0
def vc_1st (fs : List Nat) : Int32 := match fs with
  | [] => -1
  | m :: _ => vb_i m
def vb_cc (C a : Nat) : Prop := a = C ∨ a = C + 1
def vb_CD (ℓ : vb_L) (x : vb_X) (fs : List Nat) (C : Nat) (I : Nat → Nat → Int32) : Prop := I C 1 = vb_i fs.length ∧ fs.length ≤ 9 ∧ I C 2 = vc_1st fs ∧ ∀ i m, fs[i]? = some m → ∀ k, k < 30 → I (C + 1) (i * 30 + k) = vb_told (vx_mvs ℓ (vx_sty x (m / 10) (m % 10)) k)
theorem vx_seq_e (ℓ : vb_L) (x : vb_X) (k : Nat) : vx_e (vx_seq ℓ x k) = vx_e x + k := by
  induction k with
  | zero => rfl
  | succ k ih => simp only [vx_seq, vx_play, vx_do_e, ih]; omega
theorem vx_seq_y (ℓ : vb_L) (x : vb_X) (k : Nat) : vx_y (vx_seq ℓ x k) = vx_y x := by
  induction k with
  | zero => rfl
  | succ k ih => simp only [vx_seq, vx_play, vx_do_y, ih]
theorem vx_ok.seq {ℓ : vb_L} {x : vb_X} (h : vx_ok ℓ x) (k : Nat) : vx_ok ℓ (vx_seq ℓ x k) := by
  intro j hj; rw [vx_seq_y]; exact h j hj
theorem vb_told_inj {a b : Nat} (ha : a ≤ 100) (hb : b ≤ 100) : vb_told a = vb_told b ↔ a = b := by
  constructor
  · intro h
    by_cases h1 : a = 100
    · subst h1
      by_cases h2 : b = 100
      · exact h2.symm
      · exact absurd h.symm (vb_told_m1 (by omega))
    · by_cases h2 : b = 100
      · subst h2; exact absurd h (vb_told_m1 (by omega))
      · rw [vb_told_lt (by omega), vb_told_lt (by omega), vb_inj (by omega) (by omega)] at h
        omega
  · rintro rfl; rfl
theorem vx_by_le (ℓ : vb_L) (x : vb_X) : vx_by ℓ x ≤ 100 := by
  rcases vx_by_told ℓ x with ⟨h, _⟩ | ⟨h, _⟩ <;> omega
theorem vb_all_cg {α : Type} {l : List α} {f g : α → Bool} (h : ∀ p, p ∈ l → f p = g p) : l.all f = l.all g := by
  induction l with
  | nil => rfl
  | cons a l ih => rw [List.all_cons, List.all_cons, h a List.mem_cons_self, ih (fun p hp => h p (List.mem_cons_of_mem _ hp))]
section COUP
variable {G : mm_G} {d : Nat} {I : Nat → Nat → Int32} {P : Nat → Nat → Nat} {J : Nat → Nat → Int64} {S : List (Nat × Nat)} {nc ns : Nat} {μ : mm_M} {ℓ : vb_L} {L : Nat}
variable {x y : vb_X} {X Y C T : Nat} {ss : List (Nat × Nat)} {fs : List Nat}
theorem vx_sty_ok {a b : Nat} (ha : a < vb_sc ℓ) (hb : b < vb_sc ℓ) : vx_ok ℓ (vx_sty x a b) := by
  intro j hj
  right
  by_cases h : j = 0
  · exact ⟨a, ha, by simp [vx_sty, vx_y, h]⟩
  · exact ⟨b, hb, by simp [vx_sty, vx_y, h]⟩
theorem c_fit {r : Nat} (hT : vb_isT P S T) (hC : vb_isC P S C) (dT : vb_TD ss T I) (hr : r + 30 ≤ 270) : mm_Call G d 73 [.ref T, .ref (C + 1), .int (vb_i r)] (I, P, J, S, nc, ns) (.inl (some (.int (vb_b (ss.all (fun p => I (C + 1) (r + p.1) == vb_told p.2))))), (I, P, J, S, nc, ns)) := by
  refine mm_C.call ?_
  obtain ⟨h1, h2, h3⟩ := dT
  have loop := vb_down (p := fun i => ∀ x4 : Value, x4.category = 1 → (ss.take i).all (fun p => I (C + 1) (r + p.1) == vb_told p.2) = true → mm_W G d 73 (mm_blk 73 2) [.ref T, .ref (C + 1), .int (vb_i r), .int (vb_i i), x4] [] (I, P, J, S, nc, ns) (fun q => q = (.inl (some (.int (vb_b (ss.all (fun p => I (C + 1) (r + p.1) == vb_told p.2))))), (I, P, J, S, nc, ns)))) ss.length (by
    intro i hi ih x4 h4 hall
    refine mm_w1 rfl ?_
    refine mm_w1 rfl ?_
    refine mm_wgiv (vb_i ss.length) (vT_S0 hT) (by decide) (by decide) h1 ?_
    refine mm_nicge (by omega) (by omega) ?_ ?_
    · intro h7
      refine mm_wv (vb_i 1) rfl (by decide) ?_
      refine mm_wr rfl rfl rfl ?_
      have e : i = ss.length := by omega
      subst e
      rw [List.take_length] at hall
      rw [hall]; rfl
    · intro h7
      have hz : ss[i]? = some ss[i] := List.getElem?_eq_getElem h7
      obtain ⟨b1, b2, b3, b4⟩ := h3 i _ hz
      have htk : ss.take (i + 1) = ss.take i ++ [ss[i]] := by rw [List.take_add_one, hz]; rfl
      refine mm_w1 rfl ?_
      refine mm_w1 rfl ?_
      refine mm_wgr (vT_S0 hT) (by decide) (by decide) (vT_P0_0 hT) (vT_a1 hT) ?_
      refine mm_w1 rfl ?_
      refine mm_wiav _ (vT_a1 hT) (vT_S1 hT) (by decide) (by omega) b1 ?_
      refine mm_nadd ?_
      refine mm_w1 (ls' := [_, _, _, _, _]) rfl ?_
      refine mm_w1 rfl ?_
      refine mm_niflt (by omega) ?_
      refine mm_w1 rfl ?_
      refine mm_w1 rfl ?_
      refine mm_wal (vC_a1 hC) (vC_S1 hC) (by decide) ?_
      refine mm_nicge (by omega) (by omega) ?_ ?_
      · intro h29
        exact absurd h29 (by omega)
      · intro h29
        refine mm_w1 rfl ?_
        refine mm_w1 rfl ?_
        refine mm_wia (vC_a1 hC) (vC_S1 hC) (by decide) (by omega) ?_
        refine mm_w1 rfl ?_
        refine mm_wgr (vT_S0 hT) (by decide) (by decide) (vT_P0_1 hT) (vT_a2 hT) ?_
        refine mm_w1 rfl ?_
        refine mm_wiav _ (vT_a2 hT) (vT_S2 hT) (by decide) (by omega) b2 ?_
        refine mm_wiceq ?_ ?_
        · intro h42
          refine mm_nincL (ls' := [_, _, _, _, _]) 1 rfl (by decide) rfl ?_
          refine mm_wgoto ?_
          refine ih (by omega) _ rfl ?_
          rw [htk, List.all_append, hall]
          simp [h42]
        · intro h42
          refine mm_wv (vb_i 0) rfl (by decide) ?_
          refine mm_wr rfl rfl rfl ?_
          have : ss.all (fun p => I (C + 1) (r + p.1) == vb_told p.2) = false := by
            rw [List.all_eq_false]
            exact ⟨ss[i], List.getElem_mem h7, by simp [h42]⟩
          rw [this]; rfl 
    )
  show mm_W _ _ 73 (mm_blk 73 0) [.ref T, .ref (C + 1), .int (vb_i r), .null, .null] [] _ _
  refine mm_wv (vb_i 0) rfl (by decide) ?_
  refine mm_w1 (ls' := [_, _, _, _, _]) rfl ?_
  exact loop 0 (by omega) _ rfl rfl
theorem c_putC {q : Nat} {v : Int32} (hC : vb_isC P S C) (hq : q < 270) : mm_C G d 8 [.ref C, .int (vb_i q), .int v] (I, P, J, S, nc, ns) (vb_R none (fun I' => I' = mm_up I (C + 1) q v) P J S nc ns) := by
  show mm_W _ _ 8 (mm_blk 8 0) [.ref C, .int (vb_i q), .int v] [] _ _
  refine mm_w1 rfl ?_
  refine mm_w1 rfl ?_
  refine mm_wgr (vC_S0 hC) (by decide) (by decide) (vC_P0_0 hC) (vC_a1 hC) ?_
  refine mm_wal (vC_a1 hC) (vC_S1 hC) (by decide) ?_
  refine mm_nicge (by omega) (by omega) ?_ ?_
  · intro h6
    exact absurd h6 (by omega)
  · intro h6
    refine mm_w1 rfl ?_
    refine mm_wgr (vC_S0 hC) (by decide) (by decide) (vC_P0_0 hC) (vC_a1 hC) ?_
    refine mm_w1 rfl ?_
    refine mm_w1 rfl ?_
    refine mm_wis (vC_S1 hC) (by decide) (by omega) ?_
    refine mm_wr rfl rfl rfl ?_
    exact ⟨_, rfl, rfl⟩
/-- how many unlike ones -/
def vc_new (f : Nat → Int32) (i : Nat) : Bool := (List.range i).all (fun j => !(f j == f i))
def vc_unl (f : Nat → Int32) (n : Nat) : Nat := vb_cnt n (vc_new f)
theorem vc_new_s (f : Nat → Int32) (i j : Nat) : (List.range (j + 1)).all (fun j => !(f j == f i)) = ((List.range j).all (fun j => !(f j == f i)) && !(f j == f i)) := by
  rw [List.range_succ, List.all_append]; simp
theorem vb_or01 (a b : Bool) : vb_b a ||| vb_b b = vb_b (a || b) := by cases a <;> cases b <;> decide
theorem c_unl {k : Nat} {f : Nat → Int32} (hC : vb_isC P S C) (dC : vb_CD ℓ x fs C I) (hk : k < 30) (hf : ∀ i, i < fs.length → I (C + 1) (i * 30 + k) = f i) : mm_Call G d 9 [.ref C, .int (vb_i k)] (I, P, J, S, nc, ns) (.inl (some (.int (vb_i (vc_unl f fs.length)))), (I, P, J, S, nc, ns)) := by
  refine mm_C.call ?_
  obtain ⟨h1, h2, h3, h4⟩ := dC
  have outer := vb_down (p := fun i => ∀ x4 x5 : Value, x4.category = 1 → x5.category = 1 → mm_W G d 9 (mm_blk 9 4) [.ref C, .int (vb_i k), .int (vb_i (vc_unl f i)), .int (vb_i i), x4, x5] [] (I, P, J, S, nc, ns) (fun q => q = (.inl (some (.int (vb_i (vc_unl f fs.length)))), (I, P, J, S, nc, ns)))) fs.length (by
    intro i hi ihO x4 x5 hx4 hx5
    have inner : i < fs.length → ∀ j, j ≤ i → mm_W G d 9 (mm_blk 9 18) [.ref C, .int (vb_i k), .int (vb_i (vc_unl f i)), .int (vb_i i), .int (vb_b (!(List.range j).all (fun j => !(f j == f i)))), .int (vb_i j)] [] (I, P, J, S, nc, ns) (fun q => q = (.inl (some (.int (vb_i (vc_unl f fs.length)))), (I, P, J, S, nc, ns))) := by
      intro hil
      refine vb_down i ?_
      intro j hj ihI
      refine mm_w1 rfl ?_
      refine mm_w1 rfl ?_
      refine mm_nicge (by omega) (by omega) ?_ ?_
      · intro h21
        refine mm_w1 rfl ?_
        refine mm_w1 rfl ?_
        refine mm_bifeq ?_ ?_
        · intro h69
          refine mm_wv (vb_i 1) rfl (by decide) ?_
          refine mm_nadd ?_
          refine mm_w1 (ls' := [_, _, _, _, _, _]) rfl ?_
          refine mm_nincL (ls' := [_, _, _, _, _, _]) 1 rfl (by decide) rfl ?_
          refine mm_wgoto ?_
          have e : j = i := by omega
          rw [e] at h69
          have hc : vc_unl f (i + 1) = vc_unl f i + (vc_new f i).toNat := rfl
          have ih := ihO (by omega) (.int (vb_b (!(List.range j).all (fun j => !(f j == f i))))) (.int (vb_i j)) rfl rfl
          rw [hc, show vc_new f i = !!((List.range i).all (fun j => !(f j == f i))) from (Bool.not_not _).symm, h69] at ih
          exact ih
        · intro h69
          refine mm_wv (vb_i 0) rfl (by decide) ?_
          refine mm_wgoto ?_
          refine mm_nadd ?_
          refine mm_w1 (ls' := [_, _, _, _, _, _]) rfl ?_
          refine mm_nincL (ls' := [_, _, _, _, _, _]) 1 rfl (by decide) rfl ?_
          refine mm_wgoto ?_
          have e : j = i := by omega
          rw [e] at h69
          have hc : vc_unl f (i + 1) = vc_unl f i + (vc_new f i).toNat := rfl
          have ih := ihO (by omega) (.int (vb_b (!(List.range j).all (fun j => !(f j == f i))))) (.int (vb_i j)) rfl rfl
          rw [hc, show vc_new f i = !!((List.range i).all (fun j => !(f j == f i))) from (Bool.not_not _).symm, h69] at ih
          exact ih
      · intro h21
        refine mm_w1 rfl ?_
        refine mm_w1 rfl ?_
        refine mm_wgr (vC_S0 hC) (by decide) (by decide) (vC_P0_0 hC) (vC_a1 hC) ?_
        refine mm_w1 rfl ?_
        refine mm_wv (vb_i 30) rfl (by decide) ?_
        refine mm_nmul ?_
        refine mm_w1 rfl ?_
        refine mm_nadd ?_
        refine mm_wiav _ (vC_a1 hC) (vC_S1 hC) (by decide) (by omega) (hf _ (by omega)) ?_
        refine mm_w1 rfl ?_
        refine mm_wgr (vC_S0 hC) (by decide) (by decide) (vC_P0_0 hC) (vC_a1 hC) ?_
        refine mm_w1 rfl ?_
        refine mm_wv (vb_i 30) rfl (by decide) ?_
        refine mm_nmul ?_
        refine mm_w1 rfl ?_
        refine mm_nadd ?_
        refine mm_wiav _ (vC_a1 hC) (vC_S1 hC) (by decide) (by omega) (hf _ (by omega)) ?_
        refine mm_wicne ?_ ?_
        · intro h49
          refine mm_wv (vb_i 0) rfl (by decide) ?_
          refine mm_wv (vb_b (!(List.range (j + 1)).all (fun j => !(f j == f i)))) rfl (by rw [vc_new_s, vb_neb h49]; generalize (List.range j).all (fun j => !(f j == f i)) = q; cases q <;> rfl) ?_ 
          refine mm_w1 (ls' := [_, _, _, _, _, _]) rfl ?_
          refine mm_nincL (ls' := [_, _, _, _, _, _]) 1 rfl (by decide) rfl ?_
          refine mm_wgoto ?_
          exact ihI (by omega)
        · intro h49
          refine mm_wv (vb_i 1) rfl (by decide) ?_
          refine mm_wgoto ?_
          refine mm_wv (vb_b (!(List.range (j + 1)).all (fun j => !(f j == f i)))) rfl (by rw [vc_new_s, vb_eqb h49]; generalize (List.range j).all (fun j => !(f j == f i)) = q; cases q <;> rfl) ?_ 
          refine mm_w1 (ls' := [_, _, _, _, _, _]) rfl ?_
          refine mm_nincL (ls' := [_, _, _, _, _, _]) 1 rfl (by decide) rfl ?_
          refine mm_wgoto ?_
          exact ihI (by omega)
    refine mm_w1 rfl ?_
    refine mm_w1 rfl ?_
    refine mm_wgiv (vb_i fs.length) (vC_S0 hC) (by decide) (by decide) h1 ?_
    refine mm_nicge (by omega) (by omega) ?_ ?_
    · intro h9
      refine mm_w1 rfl ?_
      refine mm_wr rfl rfl rfl ?_
      have e : i = fs.length := by omega
      rw [e]
    · intro h9
      refine mm_wv (vb_i 0) rfl (by decide) ?_
      refine mm_w1 (ls' := [_, _, _, _, _, _]) rfl ?_
      refine mm_wv (vb_i 0) rfl (by decide) ?_
      refine mm_w1 (ls' := [_, _, _, _, _, _]) rfl ?_
      exact inner (by omega) 0 (by omega)
    )
  show mm_W _ _ 9 (mm_blk 9 0) [.ref C, .int (vb_i k), .null, .null, .null, .null] [] _ _
  refine mm_wv (vb_i 0) rfl (by decide) ?_
  refine mm_w1 (ls' := [_, _, _, _, _, _]) rfl ?_
  refine mm_wv (vb_i 0) rfl (by decide) ?_
  refine mm_w1 (ls' := [_, _, _, _, _, _]) rfl ?_
  exact outer 0 (by omega) _ _ rfl rfl
/-- the cells that finding may change -/
def vb_fc (L Y C a : Nat) : Prop := vb_pc L Y a ∨ vb_cc C a
theorem c_find (hC : vb_isC P S C) (hL : vb_isL P S L) (hX : vb_isX P S X) (hY : vb_isX P S Y) (hT : vb_isT P S T) (dL : vb_LD ℓ L I) (dX : vb_XD x X I) (dT : vb_TD ss T I) (hd : 7 ≤ d) (hLX : L + 12 ≤ X ∨ X + 6 ≤ L) (hLY : L + 12 ≤ Y ∨ Y + 6 ≤ L) (hXY : X + 6 ≤ Y ∨ Y + 6 ≤ X) (hLC : L + 12 ≤ C ∨ C + 2 ≤ L) (hXC : X + 6 ≤ C ∨ C + 2 ≤ X) (hYC : Y + 6 ≤ C ∨ C + 2 ≤ Y) (hLT : L + 12 ≤ T ∨ T + 3 ≤ L) (hYT : Y + 6 ≤ T ∨ T + 3 ≤ Y) (hCT : C + 2 ≤ T ∨ T + 3 ≤ C) (he : vx_e x ≤ 1000) : mm_C G d 7 [.ref C, .ref L, .ref X, .ref Y, .ref T] (I, P, J, S, nc, ns) (vb_R none (fun I' => vb_CD ℓ x (vc_fit ℓ x ss) C I' ∧ vb_LD ℓ L I' ∧ vb_XD x X I' ∧ vb_TD ss T I' ∧ vb_fr (vb_fc L Y C) I I') P J S nc ns) := by
  have hn := vl_10 dL
  have hsc := vl_sc3 dL
  have kL : ∀ I1, vb_fr (vb_fc L Y C) I I1 → vb_LD ℓ L I1 := fun I1 hf => dL.kp hf (fun j h1 h2 => by simp only [vb_fc, vb_pc, vb_scr, vb_xc, vb_cc] at h2; omega)
  have kX : ∀ I1, vb_fr (vb_fc L Y C) I I1 → vb_XD x X I1 := fun I1 hf => dX.fr hf (fun j h1 h2 => by simp only [vb_fc, vb_pc, vb_scr, vb_xc, vb_cc] at h2; omega)
  have kT : ∀ I1, vb_fr (vb_fc L Y C) I I1 → vb_TD ss T I1 := fun I1 hf => dT.fr hf (fun j h1 h2 => by simp only [vb_fc, vb_pc, vb_scr, vb_xc, vb_cc] at h2; omega)
  have outer := vb_down (p := fun a => ∀ (I1 : Nat → Nat → Int32) (pre : List Nat) (x6 x7 : Value), x6.category = 1 → x7.category = 1 → vb_CD ℓ x pre C I1 → vb_fr (vb_fc L Y C) I I1 → pre.length ≤ 3 * a → pre ++ vb_rs (vc_q ℓ x ss) (10 * a) = vc_fit ℓ x ss → mm_W G d 7 (mm_blk 7 13) [.ref C, .ref L, .ref X, .ref Y, .ref T, .int (vb_i a), x6, x7] [] (I1, P, J, S, nc, ns) (vb_R none (fun I' => vb_CD ℓ x (vc_fit ℓ x ss) C I' ∧ vb_LD ℓ L I' ∧ vb_XD x X I' ∧ vb_TD ss T I' ∧ vb_fr (vb_fc L Y C) I I') P J S nc ns)) (vb_sc ℓ) (by
    intro a ha ihO I1 pre x6 x7 h6 h7 dC1 hf1 hpl heq
    have dL1 := kL I1 hf1
    have mid : a < vb_sc ℓ → ∀ b, b ≤ vb_sc ℓ → ∀ (I1 : Nat → Nat → Int32) (pre : List Nat) (x7 : Value), x7.category = 1 → vb_CD ℓ x pre C I1 → vb_fr (vb_fc L Y C) I I1 → pre.length ≤ 3 * a + b → pre ++ vb_rs (vc_q ℓ x ss) (10 * a + b) = vc_fit ℓ x ss → mm_W G d 7 (mm_blk 7 25) [.ref C, .ref L, .ref X, .ref Y, .ref T, .int (vb_i a), .int (vb_i b), x7] [] (I1, P, J, S, nc, ns) (vb_R none (fun I' => vb_CD ℓ x (vc_fit ℓ x ss) C I' ∧ vb_LD ℓ L I' ∧ vb_XD x X I' ∧ vb_TD ss T I' ∧ vb_fr (vb_fc L Y C) I I') P J S nc ns) := by
      intro haS
      refine vb_down (vb_sc ℓ) ?_
      intro b hb ihM I1 pre x7 h7 dC1 hf1 hpl heq
      have dL1 := kL I1 hf1
      have dX1 := kX I1 hf1
      have inn : b < vb_sc ℓ → ∀ k, k ≤ 30 → ∀ (I1 : Nat → Nat → Int32), vb_CD ℓ x pre C I1 → vb_XD (vx_seq ℓ (vx_sty x a b) k) Y I1 → vb_fr (vb_fc L Y C) I I1 → (∀ q, q < k → I1 (C + 1) (pre.length * 30 + q) = vb_told (vx_mvs ℓ (vx_sty x a b) q)) → mm_W G d 7 (mm_blk 7 58) [.ref C, .ref L, .ref X, .ref Y, .ref T, .int (vb_i a), .int (vb_i b), .int (vb_i k)] [] (I1, P, J, S, nc, ns) (vb_R none (fun I' => vb_CD ℓ x (vc_fit ℓ x ss) C I' ∧ vb_LD ℓ L I' ∧ vb_XD x X I' ∧ vb_TD ss T I' ∧ vb_fr (vb_fc L Y C) I I') P J S nc ns) := by
        intro hbS
        refine vb_down 30 ?_
        intro k hk ihI I1 dC1 dY1 hf1 hq
        have dL1 := kL I1 hf1
        have dX1 := kX I1 hf1
        have dT1 := kT I1 hf1
        have hok := (vx_sty_ok (x := x) haS hbS).seq k
        have hse : vx_e (vx_seq ℓ (vx_sty x a b) k) = vx_e x + k := vx_seq_e _ _ _
        have hcd := dC1
        obtain ⟨c1, c2, c3, c4⟩ := hcd
        have hqab : vc_q ℓ x ss (10 * a + b) = ss.all (fun p => vx_mvs ℓ (vx_sty x a b) p.1 == p.2) := by
          have e1 : (10 * a + b) / 10 = a := by omega
          have e2 : (10 * a + b) % 10 = b := by omega
          simp only [vc_q, e1, e2, decide_eq_true haS, decide_eq_true hbS, Bool.true_and]
        refine mm_w1 rfl ?_
        refine mm_wv (vb_i 30) rfl (by decide) ?_
        refine mm_nicge (by omega) (by omega) ?_ ?_
        · intro h62
          refine mm_w1 rfl ?_
          refine mm_w1 rfl ?_
          refine mm_wgr (vC_S0 hC) (by decide) (by decide) (vC_P0_0 hC) (vC_a1 hC) ?_
          refine mm_w1 rfl ?_
          refine mm_wgiv (vb_i pre.length) (vC_S0 hC) (by decide) (by decide) (by first | exact c1 | (rw [vb_up2 _ _ (by omega)]; exact c1)) ?_
          refine mm_wv (vb_i 30) rfl (by decide) ?_
          refine mm_nmul ?_
          refine mm_cvp (vb_cv (vT_S0 hT) rfl rfl rfl rfl) (by decide) (by omega) (c_fit hT hC dT1 (by omega)) ?_
          have e30 : k = 30 := by omega
          have hall : ss.all (fun p => I1 (C + 1) (pre.length * 30 + p.1) == vb_told p.2) = vc_q ℓ x ss (10 * a + b) := by
            rw [hqab]
            obtain ⟨t1, t2, t3⟩ := dT1
            have hmem : ∀ p, p ∈ ss → (I1 (C + 1) (pre.length * 30 + p.1) == vb_told p.2) = (vx_mvs ℓ (vx_sty x a b) p.1 == p.2) := by
              intro p hp
              obtain ⟨i, hi⟩ := List.mem_iff_getElem?.mp hp
              obtain ⟨_, _, p1, p2⟩ := t3 i p hi
              rw [hq p.1 (by omega)]
              have : vb_told (vx_mvs ℓ (vx_sty x a b) p.1) = vb_told p.2 ↔ vx_mvs ℓ (vx_sty x a b) p.1 = p.2 := vb_told_inj (vx_by_le ℓ (vx_seq ℓ (vx_sty x a b) p.1)) p2
              by_cases e : vx_mvs ℓ (vx_sty x a b) p.1 = p.2
              · rw [e]; simp
              · rw [vb_neb (fun h => e (this.mp h))]; exact (beq_eq_false_iff_ne.mpr e).symm
            exact vb_all_cg hmem
          rw [hall] 
          refine mm_bifeq ?_ ?_
          · intro h106
            refine mm_nincL (ls' := [_, _, _, _, _, _, _, _]) 1 rfl (by decide) rfl ?_
            refine mm_wgoto ?_
            rw [vb_rs_cons (by omega), h106, if_neg (by decide)] at heq
            refine ihM (by omega) I1 pre _ rfl dC1 hf1 (by omega) heq
          · intro h106
            refine mm_w1 rfl ?_
            refine mm_w1 rfl ?_
            refine mm_wgiv (vb_i pre.length) (vC_S0 hC) (by decide) (by decide) (by first | exact c1 | (rw [vb_up2 _ _ (by omega)]; exact c1)) ?_
            refine mm_nifne (by omega) ?_ ?_
            · intro h114
              refine mm_w1 rfl ?_
              refine mm_wgiv _ (vC_S0 hC) (by decide) (by decide) rfl ?_
              refine mm_wpi (vC_S0 hC) (by decide) (by decide) ?_
              refine mm_w1 rfl ?_
              refine mm_w1 rfl ?_
              refine mm_wgiv (vb_i pre.length) (vC_S0 hC) (by decide) (by decide) (by first | exact c1 | (rw [vb_up2 _ _ (by omega)]; exact c1)) ?_
              refine mm_wv (vb_i 1) rfl (by decide) ?_
              refine mm_nadd ?_
              refine mm_wpi (vC_S0 hC) (by decide) (by decide) ?_
              refine mm_nincL (ls' := [_, _, _, _, _, _, _, _]) 1 rfl (by decide) rfl ?_
              refine mm_wgoto ?_
              rw [vb_rs_cons (by omega), h106, if_pos rfl, show pre ++ (10 * a + b) :: vb_rs (vc_q ℓ x ss) (10 * a + b + 1) = (pre ++ [10 * a + b]) ++ vb_rs (vc_q ℓ x ss) (10 * a + b + 1) by simp] at heq
              refine ihM (by omega) _ (pre ++ [10 * a + b]) _ rfl ?_ ((hf1.up (Or.inr (Or.inl rfl))).up (Or.inr (Or.inl rfl))) (by rw [List.length_append]; simp; omega) heq
              refine ⟨?_, by rw [List.length_append]; simp; omega, ?_, ?_⟩
              · rw [vb_up1, List.length_append]; rfl
              · rw [vb_up2 _ _ (by omega), vb_up1]
                first
                  | (have e0 : pre = [] := List.length_eq_zero_iff.mp h114
                     rw [e0]; rfl)
                  | (cases pre with
                     | nil => exact absurd rfl h114
                     | cons z zs => exact c3)
              · intro i m hm q hq30
                rw [vb_up3 _ _ (by omega), vb_up3 _ _ (by omega)]
                rcases vb_app1 hm with ⟨hl, hm2⟩ | ⟨hl, hm2⟩
                · exact c4 i m hm2 q hq30
                · subst hl; subst hm2
                  have e1 : (10 * a + b) / 10 = a := by omega
                  have e2 : (10 * a + b) % 10 = b := by omega
                  rw [e1, e2]; exact hq q (by omega)
            · intro h114
              refine mm_wv (vb_i 10) rfl (by decide) ?_
              refine mm_w1 rfl ?_
              refine mm_nmul ?_
              refine mm_w1 rfl ?_
              refine mm_nadd ?_
              refine mm_wgoto ?_
              refine mm_wpi (vC_S0 hC) (by decide) (by decide) ?_
              refine mm_w1 rfl ?_
              refine mm_w1 rfl ?_
              refine mm_wgiv (vb_i pre.length) (vC_S0 hC) (by decide) (by decide) (by first | exact c1 | (rw [vb_up2 _ _ (by omega)]; exact c1)) ?_
              refine mm_wv (vb_i 1) rfl (by decide) ?_
              refine mm_nadd ?_
              refine mm_wpi (vC_S0 hC) (by decide) (by decide) ?_
              refine mm_nincL (ls' := [_, _, _, _, _, _, _, _]) 1 rfl (by decide) rfl ?_
              refine mm_wgoto ?_
              rw [vb_rs_cons (by omega), h106, if_pos rfl, show pre ++ (10 * a + b) :: vb_rs (vc_q ℓ x ss) (10 * a + b + 1) = (pre ++ [10 * a + b]) ++ vb_rs (vc_q ℓ x ss) (10 * a + b + 1) by simp] at heq
              refine ihM (by omega) _ (pre ++ [10 * a + b]) _ rfl ?_ ((hf1.up (Or.inr (Or.inl rfl))).up (Or.inr (Or.inl rfl))) (by rw [List.length_append]; simp; omega) heq
              refine ⟨?_, by rw [List.length_append]; simp; omega, ?_, ?_⟩
              · rw [vb_up1, List.length_append]; rfl
              · rw [vb_up2 _ _ (by omega), vb_up1]
                first
                  | (have e0 : pre = [] := List.length_eq_zero_iff.mp h114
                     rw [e0]; rfl)
                  | (cases pre with
                     | nil => exact absurd rfl h114
                     | cons z zs => exact c3)
              · intro i m hm q hq30
                rw [vb_up3 _ _ (by omega), vb_up3 _ _ (by omega)]
                rcases vb_app1 hm with ⟨hl, hm2⟩ | ⟨hl, hm2⟩
                · exact c4 i m hm2 q hq30
                · subst hl; subst hm2
                  have e1 : (10 * a + b) / 10 = a := by omega
                  have e2 : (10 * a + b) % 10 = b := by omega
                  rw [e1, e2]; exact hq q (by omega) 
        · intro h62
          refine mm_w1 rfl ?_
          refine mm_w1 rfl ?_
          refine mm_wgiv (vb_i pre.length) (vC_S0 hC) (by decide) (by decide) (by first | exact c1 | (rw [vb_up2 _ _ (by omega)]; exact c1)) ?_
          refine mm_wv (vb_i 30) rfl (by decide) ?_
          refine mm_nmul ?_
          refine mm_w1 rfl ?_
          refine mm_nadd ?_
          refine mm_w1 rfl ?_
          refine mm_w1 rfl ?_
          refine mm_cvi (vb_cv (vX_S0 hY) rfl rfl rfl rfl) (by decide) (by omega) (c_play (ℓ := ℓ) hY hL dY1 dL1 (by omega) hLY hok (by omega)) ?_
          intro I2 hq2
          obtain ⟨dY2, dL2, hf2⟩ := hq2 
          refine mm_cvn (vb_cv (vC_S0 hC) rfl rfl rfl rfl) (by decide) (by omega) (c_putC hC (by omega)) ?_
          intro I3 hI3
          have hf12 : vb_fr (vb_fc L Y C) I1 I2 := hf2.mono (fun a h => Or.inl h)
          have hC2 : ∀ c, vb_cc C c → I2 c = I1 c := fun c hc => hf2 c (fun h => by simp only [vb_pc, vb_scr, vb_xc, vb_cc] at h hc; omega)
          have hf3 : vb_fr (vb_fc L Y C) I I3 := by rw [hI3]; exact (hf1.tr hf12).up (Or.inr (Or.inr rfl))
          have dC3 : vb_CD ℓ x pre C I3 := by
            rw [hI3]
            refine ⟨?_, c2, ?_, ?_⟩
            · rw [vb_up3 _ _ (by omega), hC2 C (Or.inl rfl)]; exact c1
            · rw [vb_up3 _ _ (by omega), hC2 C (Or.inl rfl)]; exact c3
            · intro i m hm q hq30
              have hil : i < pre.length := by
                by_cases hl : i < pre.length
                · exact hl
                · rw [List.getElem?_eq_none (by omega)] at hm; cases hm
              rw [vb_up2 _ _ (by omega), hC2 _ (Or.inr rfl)]; exact c4 i m hm q hq30
          have dY3 : vb_XD (vx_seq ℓ (vx_sty x a b) (k + 1)) Y I3 := by
            rw [hI3]
            exact dY2.kp (fun j hj => vb_up3 _ _ (by omega))
          have hq3 : ∀ q, q < k + 1 → I3 (C + 1) (pre.length * 30 + q) = vb_told (vx_mvs ℓ (vx_sty x a b) q) := by
            intro q hqk
            rw [hI3]
            by_cases e : q = k
            · subst e; rw [vb_up1]; rfl
            · rw [vb_up2 _ _ (by omega), hC2 _ (Or.inr rfl)]; exact hq q (by omega) 
          refine mm_nincL (ls' := [_, _, _, _, _, _, _, _]) 1 rfl (by decide) rfl ?_
          refine mm_wgoto ?_
          exact ihI (by omega) I3 dC3 dY3 hf3 hq3 
      refine mm_w1 rfl ?_
      refine mm_w1 rfl ?_
      refine mm_wgiv _ (vL_S0 hL) (by decide) (by decide) (vl_sc dL1) ?_
      refine mm_nicge (by omega) (by omega) ?_ ?_
      · intro h31
        refine mm_nincL (ls' := [_, _, _, _, _, _, _, _]) 1 rfl (by decide) rfl ?_
        refine mm_wgoto ?_
        have e : b = vb_sc ℓ := by omega
        subst e
        rw [vb_rs_skip (m' := 10 * (a + 1)) (by omega) (fun j h1 h2 => by
          have e2 : ¬ j % 10 < vb_sc ℓ := by omega
          simp [vc_q, e2])] at heq
        exact ihO (by omega) I1 pre _ _ rfl h7 dC1 hf1 (by omega) heq
      · intro h31
        refine mm_w1 rfl ?_
        refine mm_w1 rfl ?_
        refine mm_cvn (vb_cv (vX_S0 hY) rfl rfl rfl rfl) (by decide) (by omega) (c_copyX hY hX dX1 (by omega)) ?_
        intro I2 hq2
        obtain ⟨dY2, hf2⟩ := hq2
        have hf12 : vb_fr (vb_fc L Y C) I I2 := hf1.tr (hf2.mono (fun a h => Or.inl (Or.inr h)))
        have hC2 : ∀ c, vb_cc C c → I2 c = I1 c := fun c hc => hf2 c (fun h => by simp only [vb_xc, vb_cc] at h hc; omega) 
        refine mm_w1 rfl ?_
        refine mm_wgr (vX_S0 hY) (by decide) (by decide) (vX_P0_3 hY) (vX_a4 hY) ?_
        refine mm_wv (vb_i 0) rfl (by decide) ?_
        refine mm_w1 rfl ?_
        refine mm_wis (vX_S4 hY) (by decide) (by omega) ?_
        refine mm_w1 rfl ?_
        refine mm_wgr (vX_S0 hY) (by decide) (by decide) (vX_P0_3 hY) (vX_a4 hY) ?_
        refine mm_wv (vb_i 1) rfl (by decide) ?_
        refine mm_w1 rfl ?_
        refine mm_wis (vX_S4 hY) (by decide) (by omega) ?_
        refine mm_wv (vb_i 0) rfl (by decide) ?_
        refine mm_w1 (ls' := [_, _, _, _, _, _, _, _]) rfl ?_
        obtain ⟨c1, c2, c3, c4⟩ := dC1
        obtain ⟨a1, a2, a3, a4, a5, a6, a7⟩ := dY2
        refine inn (by omega) 0 (by omega) _ ?_ ?_ ((hf12.up (Or.inl (Or.inr ⟨by omega, by omega⟩))).up (Or.inl (Or.inr ⟨by omega, by omega⟩))) (fun q h => absurd h (by omega))
        · refine ⟨?_, c2, ?_, ?_⟩
          · rw [vb_up3 _ _ (by omega), vb_up3 _ _ (by omega), hC2 C (Or.inl rfl)]; exact c1
          · rw [vb_up3 _ _ (by omega), vb_up3 _ _ (by omega), hC2 C (Or.inl rfl)]; exact c3
          · intro i m hm q hq30; rw [vb_up3 _ _ (by omega), vb_up3 _ _ (by omega), hC2 _ (Or.inr rfl)]; exact c4 i m hm q hq30
        · refine ⟨?_, ?_, ?_, ?_, ?_, ?_, a7⟩
          · intro j hj; rw [vb_up3 _ _ (by omega), vb_up3 _ _ (by omega)]; exact a1 j hj
          · intro j hj; rw [vb_up3 _ _ (by omega), vb_up3 _ _ (by omega)]; exact a2 j hj
          · intro j hj; rw [vb_up3 _ _ (by omega), vb_up3 _ _ (by omega)]; exact a3 j hj
          · intro j hj
            by_cases h0 : j = 0
            · subst h0; rw [vb_up2 _ _ (by omega), vb_up1]; rfl
            · have h1 : j = 1 := by omega
              subst h1; rw [vb_up1]; rfl
          · intro j hj; rw [vb_up3 _ _ (by omega), vb_up3 _ _ (by omega)]; exact a5 j hj
          · rw [vb_up3 _ _ (by omega), vb_up3 _ _ (by omega)]; exact a6 
    refine mm_w1 rfl ?_
    refine mm_w1 rfl ?_
    refine mm_wgiv _ (vL_S0 hL) (by decide) (by decide) (vl_sc dL1) ?_
    refine mm_nicge (by omega) (by omega) ?_ ?_
    · intro h19
      refine mm_wr rfl rfl rfl ?_
      have e : a = vb_sc ℓ := by omega
      subst e
      rw [vb_rs_skip (m' := 100) (by omega) (fun j h1 h2 => by
        have e2 : ¬ j / 10 < vb_sc ℓ := by omega
        simp [vc_q, e2]), vb_rs_end (by omega), List.append_nil] at heq
      subst heq
      exact ⟨I1, ⟨dC1, dL1, kX I1 hf1, kT I1 hf1, hf1⟩, rfl⟩
    · intro h19
      refine mm_wv (vb_i 0) rfl (by decide) ?_
      refine mm_w1 (ls' := [_, _, _, _, _, _, _, _]) rfl ?_
      exact mid (by omega) 0 (by omega) I1 pre _ h7 dC1 hf1 (by omega) (by rw [Nat.add_zero]; exact heq)
    )
  show mm_W _ _ 7 (mm_blk 7 0) [.ref C, .ref L, .ref X, .ref Y, .ref T, .null, .null, .null] [] _ _
  refine mm_w1 rfl ?_
  refine mm_wv (vb_i 0) rfl (by decide) ?_
  refine mm_wpi (vC_S0 hC) (by decide) (by decide) ?_
  refine mm_w1 rfl ?_
  refine mm_wv (-1) rfl (by decide) ?_
  refine mm_wpi (vC_S0 hC) (by decide) (by decide) ?_
  refine mm_wv (vb_i 0) rfl (by decide) ?_
  refine mm_w1 (ls' := [_, _, _, _, _, _, _, _]) rfl ?_
  refine outer 0 (by omega) _ [] _ _ rfl rfl ⟨?_, by decide, ?_, fun i m h => by simp at h⟩ ((vb_fr.rf.up (Or.inr (Or.inl rfl))).up (Or.inr (Or.inl rfl))) (by decide) rfl
  · rw [vb_up2 _ _ (by omega), vb_up1]; rfl
  · rw [vb_up1]; rfl
end COUP
