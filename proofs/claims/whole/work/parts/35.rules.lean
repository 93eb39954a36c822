/-! RULES: what code gives, values of a move -/
section JUNK
variable {G : mm_G} {d k : Nat} {is : List mm_I} {ls st : List Value} {μ : mm_M} {Q : mm_R → Prop} {t b w : Nat} {c : Int32}
/-- a local is laid beside one of which only its width is known -/
theorem mm_jk {i j : Nat} {x v : Value} {ls' : List Value} (hi : i = j + 1) (hc : x.category = 1) (hx : ls[j]? = some x) (e : ls.set i v = ls') : mm_s1 i v ls = ls' := by
  subst hi
  simp only [mm_s1, mm_kill, hx]
  rw [if_neg (by rw [hc]; decide)]; exact e
theorem mm_wsj {i j : Nat} {x : Value} {v : Int32} {ls' : List Value} (hi : i = j + 1) (hc : x.category = 1) (hx : ls[j]? = some x) (hl : i < ls.length) (e : ls.set i (.int v) = ls') (kk : mm_W G d k is ls' st μ Q) : mm_W G d k ((.istore i, t, b, w, c) :: is) ls (.int v :: st) μ Q :=
  mm_w1 (by simp only [mm_one]; rw [if_pos hl, mm_jk hi hc hx e]) kk
theorem mm_wsjn {i : Fin 4} {j : Nat} {x : Value} {v : Int32} {ls' : List Value} (hi : (i : Nat) = j + 1) (hc : x.category = 1) (hx : ls[j]? = some x) (hl : (i : Nat) < ls.length) (e : ls.set i (.int v) = ls') (kk : mm_W G d k is ls' st μ Q) : mm_W G d k ((.istore_n i, t, b, w, c) :: is) ls (.int v :: st) μ Q :=
  mm_w1 (by simp only [mm_one]; rw [if_pos hl, mm_jk hi hc hx e]) kk
theorem mm_wsja {i j : Nat} {x : Value} {v : Nat} {ls' : List Value} (hi : i = j + 1) (hc : x.category = 1) (hx : ls[j]? = some x) (hl : i < ls.length) (e : ls.set i (.ref v) = ls') (kk : mm_W G d k is ls' st μ Q) : mm_W G d k ((.astore i, t, b, w, c) :: is) ls (.ref v :: st) μ Q :=
  mm_w1 (by simp only [mm_one]; rw [if_pos hl, mm_jk hi hc hx e]) kk
theorem mm_wsjan {i : Fin 4} {j : Nat} {x : Value} {v : Nat} {ls' : List Value} (hi : (i : Nat) = j + 1) (hc : x.category = 1) (hx : ls[j]? = some x) (hl : (i : Nat) < ls.length) (e : ls.set i (.ref v) = ls') (kk : mm_W G d k is ls' st μ Q) : mm_W G d k ((.astore_n i, t, b, w, c) :: is) ls (.ref v :: st) μ Q :=
  mm_w1 (by simp only [mm_one]; rw [if_pos hl, mm_jk hi hc hx e]) kk
/-- switches -/
def mm_tgt (x1 : Nat) (dflt lo hi : Int) (offs : Array Int) (v : Int32) : Option Nat := if v.toInt < lo ∨ hi < v.toInt then some ((x1 : Int) + dflt).toNat else (offs[(v.toInt - lo).toNat]?).map fun off => ((x1 : Int) + off).toNat
theorem mm_wts {dflt lo hi : Int} {offs : Array Int} {v : Int32} (t' : Nat) (h : mm_tgt t dflt lo hi offs v = some t') (kk : mm_W G d k (mm_blk k t') ls st μ Q) : mm_W G d k ((.tableswitch dflt lo hi offs, t, b, w, c) :: is) ls (.int v :: st) μ Q := by
  refine mm_wj t' rfl ?_ kk
  simp only [mm_jmp]
  simp only [mm_tgt] at h
  split at h
  · rename_i h1
    rw [if_pos h1]; cases h; rfl
  · rename_i h1
    rw [if_neg h1]
    cases e : offs[(v.toInt - lo).toNat]? with
    | none => rw [e] at h; cases h
    | some o => rw [e] at h; cases h; rfl
theorem mm_wls1 {dflt : Int} {ps : Array (Int × Int)} {v : Int32} (t' : Nat) (h : ((t : Int) + Op.lookupswitch.offset ps.toList dflt v.toInt).toNat = t') (kk : mm_W G d k (mm_blk k t') ls st μ Q) : mm_W G d k ((.lookupswitch dflt ps, t, b, w, c) :: is) ls (.int v :: st) μ Q := by
  refine mm_wj t' rfl ?_ kk
  simp only [mm_jmp, h]
end JUNK
theorem vb_fr.up1 {I I' : Nat → Nat → Int32} {a j : Nat} {v : Int32} (h : vb_fr (fun b => b = a) I I') : vb_fr (fun b => b = a) I (mm_up I' a j v) := vb_fr.up (F := fun b => b = a) h rfl
/-- only the eight values count -/
def vb_cg (f : (Nat → Int32) → Int32) : Prop := ∀ v v' : Nat → Int32, (∀ j, j < 8 → v j = v' j) → f v = f v'
theorem vb_neg1 {it : Int32} (h0 : it < 0) (h8 : -1 - it < vb_i 8) : (-1 - it).toNatClampNeg < 8 := by
  have h1 : it.toInt < 0 := by rw [Int32.lt_iff_toInt_lt] at h0; exact h0
  have e : (-1 - it).toInt = -1 - it.toInt := by
    rw [Int32.toInt_sub]
    have h2 := Int32.le_toInt it
    have : (-1 : Int32).toInt = -1 := by decide
    rw [this]
    apply Int.bmod_eq_of_le
    · omega
    · omega
  rw [Int32.lt_iff_toInt_lt, e, vb_toInt (by decide)] at h8
  simp only [Int32.toNatClampNeg, e]
  omega
theorem vb_st1_p {v : Nat → Int32} {stk : List Int32} {it : Int32} (h8 : -1 - it < vb_i 8) : vb_st1 v stk it = (if it < 0 then v (-1 - it).toNatClampNeg else it) :: stk := if_pos h8
theorem vb_st1_n {v v' : Nat → Int32} {stk : List Int32} {it : Int32} (h8 : ¬ -1 - it < vb_i 8) : vb_st1 v stk it = vb_st1 v' stk it := (if_neg h8).trans (if_neg h8).symm
theorem vb_st1_cg {v v' : Nat → Int32} (h : ∀ j, j < 8 → v j = v' j) (stk : List Int32) (it : Int32) : vb_st1 v stk it = vb_st1 v' stk it := by
  by_cases h8 : -1 - it < vb_i 8
  · rw [vb_st1_p h8, vb_st1_p h8]
    by_cases h0 : it < 0
    · rw [if_pos h0, if_pos h0, h _ (vb_neg1 h0 h8)]
    · rw [if_neg h0, if_neg h0]
  · exact vb_st1_n h8
theorem vb_st1_o {v : Nat → Int32} {s : List Int32} {r l it : Int32} (h8 : ¬ -1 - it < vb_i 8) : vb_st1 v (r :: l :: s) it = vb_op (-1 - it) l r :: s := if_neg h8
section OPS
variable {l r : Int32}
theorem vb_eqb {a b : Int32} (h : a = b) : (a == b) = true := by simp [h]
theorem vb_neb {a b : Int32} (h : ¬ a = b) : (a == b) = false := by simp [h]
theorem vo_8 : vb_op (vb_i (8 + 0)) l r = vb_b (!(l == 0) && !(r == 0)) := if_pos rfl
theorem vo_9 : vb_op (vb_i (8 + 1)) l r = vb_b (!(l == 0) || !(r == 0)) := (if_neg (by decide)).trans (if_pos rfl)
theorem vo_10 : vb_op (vb_i (8 + 2)) l r = l + r := (if_neg (by decide)).trans ((if_neg (by decide)).trans (if_pos rfl))
theorem vo_11 : vb_op (vb_i (8 + 3)) l r = l - r := (if_neg (by decide)).trans ((if_neg (by decide)).trans ((if_neg (by decide)).trans (if_pos rfl)))
theorem vo_12 : vb_op (vb_i (8 + 4)) l r = l * r := (if_neg (by decide)).trans ((if_neg (by decide)).trans ((if_neg (by decide)).trans ((if_neg (by decide)).trans (if_pos rfl))))
theorem vo_13 : vb_op (vb_i (8 + 5)) l r = if r = 0 then 0 else l / r := (if_neg (by decide)).trans ((if_neg (by decide)).trans ((if_neg (by decide)).trans ((if_neg (by decide)).trans ((if_neg (by decide)).trans (if_pos rfl)))))
theorem vo_14 : vb_op (vb_i (8 + 6)) l r = vb_b (decide (l < r)) := (if_neg (by decide)).trans ((if_neg (by decide)).trans ((if_neg (by decide)).trans ((if_neg (by decide)).trans ((if_neg (by decide)).trans ((if_neg (by decide)).trans (if_pos rfl))))))
theorem vo_15 : vb_op (vb_i (8 + 7)) l r = vb_b (l == r) := (if_neg (by decide)).trans ((if_neg (by decide)).trans ((if_neg (by decide)).trans ((if_neg (by decide)).trans ((if_neg (by decide)).trans ((if_neg (by decide)).trans (if_neg (by decide)))))))
theorem vo_8a {y : Int32} (h : l = 0) (hy : y = vb_i 0) : y = vb_op (vb_i (8 + 0)) l r := by rw [hy]; rw [vo_8, vb_eqb h]; rfl
theorem vo_8b {y : Int32} (h : r = 0) (hy : y = vb_i 0) : y = vb_op (vb_i (8 + 0)) l r := by rw [hy]; rw [vo_8, vb_eqb h, Bool.not_true, Bool.and_false]; rfl
theorem vo_8c {y : Int32} (h : ¬ l = 0) (h' : ¬ r = 0) (hy : y = vb_i 1) : y = vb_op (vb_i (8 + 0)) l r := by rw [hy]; rw [vo_8, vb_neb h, vb_neb h']; rfl
theorem vo_9a {y : Int32} (h : ¬ l = 0) (hy : y = vb_i 1) : y = vb_op (vb_i (8 + 1)) l r := by rw [hy]; rw [vo_9, vb_neb h]; rfl
theorem vo_9b {y : Int32} (h : l = 0) (h' : r = 0) (hy : y = vb_i 0) : y = vb_op (vb_i (8 + 1)) l r := by rw [hy]; rw [vo_9, vb_eqb h, vb_eqb h']; rfl
theorem vo_9c {y : Int32} (h' : ¬ r = 0) (hy : y = vb_i 1) : y = vb_op (vb_i (8 + 1)) l r := by rw [hy]; rw [vo_9, vb_neb h', Bool.not_false, Bool.or_true]; rfl
theorem vo_13a {y : Int32} (h : r = 0) (hy : y = vb_i 0) : y = vb_op (vb_i (8 + 5)) l r := by rw [hy]; rw [vo_13, if_pos h]; rfl
theorem vo_13b {y : Int32} (h : ¬ r = 0) (hy : y = l / r) : y = vb_op (vb_i (8 + 5)) l r := by rw [hy]; rw [vo_13, if_neg h]
theorem vo_14a {y : Int32} (h : ¬ l < r) (hy : y = vb_i 0) : y = vb_op (vb_i (8 + 6)) l r := by rw [hy]; rw [vo_14, decide_eq_false h]; rfl
theorem vo_14b {y : Int32} (h : l < r) (hy : y = vb_i 1) : y = vb_op (vb_i (8 + 6)) l r := by rw [hy]; rw [vo_14, decide_eq_true h]; rfl
theorem vo_15a {y : Int32} (h : ¬ l = r) (hy : y = vb_i 0) : y = vb_op (vb_i (8 + 7)) l r := by rw [hy]; rw [vo_15, vb_neb h]; rfl
theorem vo_15b {y : Int32} (h : l = r) (hy : y = vb_i 1) : y = vb_op (vb_i (8 + 7)) l r := by rw [hy]; rw [vo_15, vb_eqb h]; rfl
end OPS
theorem vb_two {stk : List Int32} (h : 2 ≤ stk.length) : ∃ rr ll s2, stk = rr :: ll :: s2 := by
  cases stk with
  | nil => exact absurd h (by simp)
  | cons a s => cases s with
    | nil => exact absurd h (by simp)
    | cons b s => exact ⟨a, b, s, rfl⟩
theorem vb_fold_cg {v v' : Nat → Int32} (h : ∀ j, j < 8 → v j = v' j) : ∀ (c stk : List Int32), c.foldl (vb_st1 v) stk = c.foldl (vb_st1 v') stk := by
  intro c
  induction c with
  | nil => intro stk; simp only [List.foldl_nil]
  | cons it c ih => intro stk; simp only [List.foldl_cons, vb_st1_cg h]; exact ih _
theorem vb_RD.cg {co sa en : Nat → Int32} {r : Nat} {f : (Nat → Int32) → Int32} (h : vb_RD co sa en r f) : vb_cg f := by
  obtain ⟨s, c, _, _, _, _, _, hf⟩ := h
  intro v v' hv
  rw [← hf, ← hf, vb_fold_cg hv]
theorem vb_below_and {n : Nat} {a b : Int32} (h : vb_below n a) : vb_below n (a &&& b) := by
  intro v hv
  rw [vb_has_and] at hv
  exact h v (by cases e : vb_has a v <;> simp_all)
theorem vb_below_mono {n m : Nat} {a : Int32} (h : vb_below n a) (hm : n ≤ m) : vb_below m a := fun v hv => Nat.lt_of_lt_of_le (h v hv) hm
/-- the values of a move -/
def vb_val (ℓ : vb_L) (own foe fl : Int32) (fr to : Nat) (ev : Int32) (j : Nat) : Int32 :=
  if j = 0 then vb_i (vb_cnt 10 (vb_has (vb_nb ℓ to &&& own &&& ~~~ vb_bit fr))) else if j = 1 then vb_i (vb_cnt 10 (vb_has (vb_nb ℓ to &&& foe))) else if j = 2 then vb_fo ℓ to else if j = 3 then vb_wo ℓ to
  else if j = 4 then vb_wo ℓ fr else if j = 5 then vb_b (vb_has foe to) else if j = 6 then vb_i 1 - vb_b (vb_has fl to) else ev
section RULES
variable {G : mm_G} {d : Nat} {I : Nat → Nat → Int32} {P : Nat → Nat → Nat} {J : Nat → Nat → Int64} {S : List (Nat × Nat)} {nc ns : Nat} {μ : mm_M} {ℓ : vb_L} {L : Nat}
theorem vb_m100 {a b : Nat} (hb : b < 100) : (100 * a + b) / 100 = a ∧ (100 * a + b) % 100 = b := by omega
theorem c_setv {own foe fl ev : Int32} {fr to : Nat} (hL : vb_isL P S L) (hD : vb_LD ℓ L I) (hd : 1 ≤ d) (hfr : fr < vb_n ℓ) (hto : to < vb_n ℓ) : mm_C G d 28 [.ref L, .int own, .int foe, .int fl, .int (vb_i (100 * fr + to)), .int ev] (I, P, J, S, nc, ns) (vb_R none (fun I' => (∀ j, j < 8 → I' (L + 10) j = vb_val ℓ own foe fl fr to ev j) ∧ vb_fr (fun a => a = L + 10) I I') P J S nc ns) := by
  have hn := vl_10 hD
  have e1 := (vb_m100 (a := fr) (b := to) (by omega)).1
  have e2 := (vb_m100 (a := fr) (b := to) (by omega)).2
  have hb := vl_nbb hD hto
  show mm_W _ _ 28 (mm_blk 28 0) [.ref L, .int own, .int foe, .int fl, .int (vb_i (100 * fr + to)), .int ev, .null, .null, .null, .null] [] _ _
  refine mm_w1 rfl ?_
  refine mm_wv (vb_i 100) rfl (by decide) ?_
  refine mm_ndiv (by omega) (by omega) (by omega) ?_
  rw [e1] 
  refine mm_w1 (ls' := [_, _, _, _, _, _, _, _, _, _]) rfl ?_
  refine mm_w1 rfl ?_
  refine mm_wv (vb_i 100) rfl (by decide) ?_
  refine mm_nrem (by omega) (by omega) (by omega) ?_
  rw [e2] 
  refine mm_w1 (ls' := [_, _, _, _, _, _, _, _, _, _]) rfl ?_
  refine mm_w1 rfl ?_
  refine mm_niflt (by omega) ?_
  refine mm_w1 rfl ?_
  refine mm_wv (vb_i 10) rfl (by decide) ?_
  refine mm_nicge (by omega) (by omega) ?_ ?_
  · intro h23
    omega
  · intro h23
    refine mm_w1 rfl ?_
    refine mm_niflt (by omega) ?_
    refine mm_w1 rfl ?_
    refine mm_wv (vb_i 10) rfl (by decide) ?_
    refine mm_niclt (by omega) (by omega) ?_ ?_
    · intro h35
      refine mm_w1 rfl ?_
      refine mm_wgr (vL_S0 hL) (by decide) (by decide) (vL_P0_6 hL) (vL_a3 hL) ?_
      refine mm_w1 rfl ?_
      refine mm_wiav _ (vL_a3 hL) (vL_S3 hL) (by decide) (by omega) (vl_nb hD (by omega)) ?_
      refine mm_w1 (ls' := [_, _, _, _, _, _, _, _, _, _]) rfl ?_
      refine mm_w1 rfl ?_
      refine mm_wgr (vL_S0 hL) (by decide) (by decide) (vL_P0_9 hL) (vL_a6 hL) ?_
      refine mm_wgr (vL_S6 hL) (by decide) (by decide) (vL_P6_4 hL) (vL_a10 hL) ?_
      refine mm_w1 (ls' := [_, _, _, _, _, _, _, _, _, _]) rfl ?_
      refine mm_w1 rfl ?_
      refine mm_wv (vb_i 0) rfl (by decide) ?_
      refine mm_w1 rfl ?_
      refine mm_w1 rfl ?_
      refine mm_w1 rfl ?_
      refine mm_wv (vb_i 1) rfl (by decide) ?_
      refine mm_w1 rfl ?_
      refine mm_nbit (by omega) ?_
      refine mm_wv (-1) rfl (by decide) ?_
      refine mm_nnot ?_
      refine mm_w1 rfl ?_
      refine mm_csp rfl (by decide) (by omega) (c_bc (vb_below_mono (vb_below_and (vb_below_and hb)) hn)) ?_ 
      refine mm_wis (vL_S10 hL) (by decide) (by omega) ?_
      refine mm_w1 rfl ?_
      refine mm_wv (vb_i 1) rfl (by decide) ?_
      refine mm_w1 rfl ?_
      refine mm_w1 rfl ?_
      refine mm_w1 rfl ?_
      refine mm_csp rfl (by decide) (by omega) (c_bc (vb_below_mono (vb_below_and hb) hn)) ?_ 
      refine mm_wis (vL_S10 hL) (by decide) (by omega) ?_
      refine mm_w1 rfl ?_
      refine mm_wv (vb_i 2) rfl (by decide) ?_
      refine mm_w1 rfl ?_
      refine mm_wgr (vL_S0 hL) (by decide) (by decide) (vL_P0_5 hL) (vL_a2 hL) ?_
      refine mm_w1 rfl ?_
      refine mm_wiav (vb_fo ℓ to) (vL_a2 hL) (vL_S2 hL) (by decide) (by omega) (by simp only [vb_up3 _ _ (show L + 2 ≠ L + 10 by omega)]; exact vl_fo hD (by omega)) ?_
      refine mm_wis (vL_S10 hL) (by decide) (by omega) ?_
      refine mm_w1 rfl ?_
      refine mm_wv (vb_i 3) rfl (by decide) ?_
      refine mm_w1 rfl ?_
      refine mm_wgr (vL_S0 hL) (by decide) (by decide) (vL_P0_4 hL) (vL_a1 hL) ?_
      refine mm_w1 rfl ?_
      refine mm_wiav (vb_wo ℓ to) (vL_a1 hL) (vL_S1 hL) (by decide) (by omega) (by simp only [vb_up3 _ _ (show L + 1 ≠ L + 10 by omega)]; exact vl_wo hD (by omega)) ?_ 
      refine mm_wis (vL_S10 hL) (by decide) (by omega) ?_
      refine mm_w1 rfl ?_
      refine mm_wv (vb_i 4) rfl (by decide) ?_
      refine mm_w1 rfl ?_
      refine mm_wgr (vL_S0 hL) (by decide) (by decide) (vL_P0_4 hL) (vL_a1 hL) ?_
      refine mm_w1 rfl ?_
      refine mm_wiav (vb_wo ℓ fr) (vL_a1 hL) (vL_S1 hL) (by decide) (by omega) (by simp only [vb_up3 _ _ (show L + 1 ≠ L + 10 by omega)]; exact vl_wo hD (by omega)) ?_ 
      refine mm_wis (vL_S10 hL) (by decide) (by omega) ?_
      refine mm_w1 rfl ?_
      refine mm_wv (vb_i 5) rfl (by decide) ?_
      refine mm_w1 rfl ?_
      refine mm_w1 rfl ?_
      refine mm_w1 rfl ?_
      refine mm_wv (vb_i 1) rfl (by decide) ?_
      refine mm_wv (vb_b (vb_has _ _)) rfl (vb_shr1 _ (by omega)) ?_
      refine mm_wis (vL_S10 hL) (by decide) (by omega) ?_
      refine mm_w1 rfl ?_
      refine mm_wv (vb_i 6) rfl (by decide) ?_
      refine mm_wv (vb_i 1) rfl (by decide) ?_
      refine mm_w1 rfl ?_
      refine mm_w1 rfl ?_
      refine mm_w1 rfl ?_
      refine mm_wv (vb_i 1) rfl (by decide) ?_
      refine mm_wv (vb_b (vb_has _ _)) rfl (vb_shr1 _ (by omega)) ?_
      refine mm_w1 rfl ?_
      refine mm_wis (vL_S10 hL) (by decide) (by omega) ?_
      refine mm_w1 rfl ?_
      refine mm_wv (vb_i 7) rfl (by decide) ?_
      refine mm_w1 rfl ?_
      refine mm_wis (vL_S10 hL) (by decide) (by omega) ?_
      refine mm_wr rfl rfl rfl ?_
      refine ⟨_, ⟨?_, ?_⟩, rfl⟩
      · intro j hj
        match j, hj with
        | 0, _ => simp [mm_up, vb_val]
        | 1, _ => simp [mm_up, vb_val]
        | 2, _ => simp [mm_up, vb_val]
        | 3, _ => simp [mm_up, vb_val]
        | 4, _ => simp [mm_up, vb_val]
        | 5, _ => simp [mm_up, vb_val]
        | 6, _ => simp [mm_up, vb_val]
        | 7, _ => simp [mm_up, vb_val]
      · exact (((((((vb_fr.rf.up1.up1).up1).up1).up1).up1).up1).up1)
    · intro h35
      omega
/-- the stack lies in the cell, its top last -/
def vb_stk (I : Nat → Nat → Int32) (a : Nat) (stk : List Int32) : Prop := ∀ j x, stk.reverse[j]? = some x → I a j = x
theorem vb_stk.push {I : Nat → Nat → Int32} {a : Nat} {stk : List Int32} (h : vb_stk I a stk) (v : Int32) : vb_stk (mm_up I a stk.length v) a (v :: stk) := by
  intro j x hj
  rw [List.reverse_cons] at hj
  by_cases e : j < stk.reverse.length
  · rw [List.getElem?_append_left e] at hj
    rw [List.length_reverse] at e
    rw [vb_up2 _ _ (by omega)]
    exact h j x hj
  · rw [List.getElem?_append_right (by omega)] at hj
    rw [List.length_reverse] at e hj
    by_cases e2 : j = stk.length
    · subst e2
      rw [Nat.sub_self] at hj
      cases hj
      exact vb_up1 _ _ _ _
    · obtain ⟨q, hq⟩ : ∃ q, j - stk.length = q + 1 := ⟨j - stk.length - 1, by omega⟩
      rw [hq] at hj
      cases hj
theorem vb_stk.pop {I : Nat → Nat → Int32} {a : Nat} {x : Int32} {stk : List Int32} (h : vb_stk I a (x :: stk)) : vb_stk I a stk ∧ I a stk.length = x := by
  constructor
  · intro j y hj
    refine h j y ?_
    have e : j < stk.reverse.length := (List.getElem?_eq_some_iff.mp hj).1
    rw [List.reverse_cons, List.getElem?_append_left e]; exact hj
  · refine h _ x ?_
    rw [List.reverse_cons, List.getElem?_append_right (by rw [List.length_reverse]; exact Nat.le_refl _), List.length_reverse, Nat.sub_self]; rfl
theorem vb_drop {c : List Int32} {i : Nat} (h : i < c.length) : c.drop i = c.getD i 0 :: c.drop (i + 1) := by
  rw [List.drop_eq_getElem_cons h]
  congr 1
  rw [List.getD_eq_getElem?_getD, List.getElem?_eq_getElem h]; rfl
set_option maxHeartbeats 4000000 in
theorem c_give {r : Nat} {f : (Nat → Int32) → Int32} (hr : r ≤ 3) (hL : vb_isL P S L) (hR : vb_RD (I (L + 7)) (I (L + 8)) (I (L + 9)) r f) : mm_C G d 68 [.ref (L + 6), .int (vb_i r)] (I, P, J, S, nc, ns) (vb_R (some (.int (f (I (L + 10))))) (fun I' => vb_fr (fun a => a = L + 11) I I') P J S nc ns) := by
  obtain ⟨s, c, hs, he, hm, hc, hw, hf⟩ := hR
  rw [← hf]
  have fin : ∀ (I1 : Nat → Nat → Int32) (stk : List Int32) (x4 x5 x6 x7 : Value) (i : Nat), vb_fr (fun a => a = L + 11) I I1 → vb_stk I1 (L + 11) stk → stk.length ≤ 64 → stk = c.foldl (vb_st1 (I (L + 10))) [] →
      mm_W G d 68 (mm_blk 68 299) [.ref (L + 6), .int (vb_i r), .int (vb_i stk.length), .int (vb_i (s + i)), x4, x5, x6, x7] [] (I1, P, J, S, nc, ns) (vb_R (some (.int ((c.foldl (vb_st1 (I (L + 10))) []).headD 0))) (fun I' => vb_fr (fun a => a = L + 11) I I') P J S nc ns) := by
    intro I1 stk x4 x5 x6 x7 i hfr hst h64 e
    rw [← e]
    cases stk with
    | nil =>
      refine mm_w1 rfl ?_
      refine mm_nifle (by omega) ?_ ?_
      · intro h300
        refine mm_wv (vb_i 0) rfl (by decide) ?_
        refine mm_wr rfl rfl rfl ?_
        exact ⟨_, hfr, rfl⟩
      · intro h300
        exact absurd h300 (by simp)
    | cons x stk =>
      have hp := hst.pop
      simp only [List.length_cons] at h64 ⊢
      refine mm_w1 rfl ?_
      refine mm_nifle (by omega) ?_ ?_
      · intro h300
        exact absurd h300 (by simp)
      · intro h300
        refine mm_w1 rfl ?_
        refine mm_wgr (vL_S6 hL) (by decide) (by decide) (vL_P6_5 hL) (vL_a11 hL) ?_
        refine mm_w1 rfl ?_
        refine mm_wv (vb_i 1) rfl (by decide) ?_
        refine mm_nsub (by omega) ?_
        refine mm_wiav x (vL_a11 hL) (vL_S11 hL) (by decide) (by omega) (by rw [Nat.add_sub_cancel]; exact hp.2) ?_
        refine mm_wgoto ?_
        refine mm_wr rfl rfl rfl ?_
        exact ⟨_, hfr, rfl⟩
  have body : ∀ (i : Nat) (hx : i < c.length) (I1 : Nat → Nat → Int32) (stk : List Int32) (it : Int32) (x4 x5 x6 x7 : Value) (h4 : x4.category = 1) (h5 : x5.category = 1) (h6 : x6.category = 1) (h7 : x7.category = 1), vb_fr (fun a => a = L + 11) I I1 → vb_stk I1 (L + 11) stk → I1 (L + 7) (s + i) = it → ((-1 - it < vb_i 8 ∧ stk.length < 64 ∧ vb_wf (c.drop (i + 1)) (stk.length + 1)) ∨ (2 ≤ stk.length ∧ (∃ j, j < 8 ∧ -1 - it = vb_i (8 + j)) ∧ vb_wf (c.drop (i + 1)) (stk.length - 1))) → stk.length ≤ 64 → (c.drop (i + 1)).foldl (vb_st1 (I (L + 10))) (vb_st1 (I (L + 10)) stk it) = c.foldl (vb_st1 (I (L + 10))) [] → (ih : ∀ (I1 : Nat → Nat → Int32) (stk : List Int32) (x4 x5 x6 x7 : Value) (h4 : x4.category = 1) (h5 : x5.category = 1) (h6 : x6.category = 1) (h7 : x7.category = 1), vb_fr (fun a => a = L + 11) I I1 → vb_stk I1 (L + 11) stk → vb_wf (c.drop (i + 1)) stk.length → stk.length ≤ 64 → (c.drop (i + 1)).foldl (vb_st1 (I (L + 10))) stk = c.foldl (vb_st1 (I (L + 10))) [] →
      mm_W G d 68 (mm_blk 68 20) [.ref (L + 6), .int (vb_i r), .int (vb_i stk.length), .int (vb_i (s + (i + 1))), x4, x5, x6, x7] [] (I1, P, J, S, nc, ns) (vb_R (some (.int ((c.foldl (vb_st1 (I (L + 10))) []).headD 0))) (fun I' => vb_fr (fun a => a = L + 11) I I') P J S nc ns)) →
      mm_W G d 68 ((mm_blk 68 20).drop 6) [.ref (L + 6), .int (vb_i r), .int (vb_i stk.length), .int (vb_i (s + i)), x4, x5, x6, x7] [] (I1, P, J, S, nc, ns) (vb_R (some (.int ((c.foldl (vb_st1 (I (L + 10))) []).headD 0))) (fun I' => vb_fr (fun a => a = L + 11) I I') P J S nc ns) := by
    intro i hx I1 stk it x4 x5 x6 x7 h4 h5 h6 h7 hfr hst q7 hwf h64 hfold ih
    have q : ∀ j, j ≠ 11 → I1 (L + j) = I (L + j) := fun j hj => hfr _ (by omega)
    have hd0 : ∀ (y : Int32) (I2 : Nat → Nat → Int32) (h : Nat), stk.length ≤ 64 → True := fun _ _ _ _ => trivial
    show mm_W _ _ 68 ((mm_blk 68 20).drop 6) _ _ _ _
    refine mm_w1 rfl ?_
    refine mm_wgr (vL_S6 hL) (by decide) (by decide) (vL_P6_0 hL) (vL_a7 hL) ?_
    refine mm_w1 rfl ?_
    refine mm_wiav it (vL_a7 hL) (vL_S7 hL) (by decide) (by omega) q7 ?_
    refine mm_w1 (ls' := [_, _, _, _, _, _, _, _]) rfl ?_
    refine mm_wv (-1) rfl (by decide) ?_
    refine mm_w1 rfl ?_
    refine mm_w1 rfl ?_
    refine mm_w1 (ls' := [_, _, _, _, _, _, _, _]) rfl ?_
    refine mm_w1 rfl ?_
    refine mm_wv (vb_i 8) rfl (by decide) ?_
    rcases hwf with ⟨hlt, hl64, hwf⟩ | ⟨h2, ⟨jj, hj8, hjj⟩, hwf⟩
    · refine mm_wicge (fun h => absurd hlt h) (fun _ => ?_)
      refine mm_w1 rfl ?_
      refine mm_wv (vb_i 64) rfl (by decide) ?_
      refine mm_nicge (by omega) (by omega) ?_ ?_
      · intro h54
        omega
      · intro h54
        refine mm_w1 rfl ?_
        refine mm_wgr (vL_S6 hL) (by decide) (by decide) (vL_P6_5 hL) (vL_a11 hL) ?_
        refine mm_w1 rfl ?_
        refine mm_w1 rfl ?_
        by_cases hneg : it < 0
        · refine mm_wiflt (fun _ => ?_) (fun h => absurd hneg h)
          have hk := vb_neg1 hneg hlt
          have ek : -1 - it = vb_i (-1 - it).toNatClampNeg := by
            have h0 : ¬ (-1 - it) < 0 := by
              intro hh
              have h1 : it.toInt < 0 := by rw [Int32.lt_iff_toInt_lt] at hneg; exact hneg
              rw [Int32.lt_iff_toInt_lt, Int32.toInt_sub] at hh
              have h2 := Int32.le_toInt it
              have e1 : (-1 : Int32).toInt = -1 := by decide
              have e0 : (0 : Int32).toInt = 0 := by decide
              rw [e1, e0, Int.bmod_eq_of_le (by omega) (by omega)] at hh
              omega
            obtain ⟨q1, _, q2⟩ := vb_of (n := 8) (by decide) h0 hlt
            rw [q2, vb_nat (by omega)]
          refine mm_w1 rfl ?_
          refine mm_wgr (vL_S6 hL) (by decide) (by decide) (vL_P6_4 hL) (vL_a10 hL) ?_
          refine mm_w1 rfl ?_
          rw [ek]
          refine mm_wiav (I (L + 10) (-1 - it).toNatClampNeg) (vL_a10 hL) (vL_S10 hL) (by decide) hk (by rw [q 10 (by omega)]) ?_ 
          refine mm_wis (vL_S11 hL) (by decide) (by omega) ?_
          refine mm_nincL (ls' := [_, _, _, _, _, _, _, _]) 1 rfl (by decide) rfl ?_
          refine mm_wgoto ?_
          refine mm_ninc 1 rfl (by decide) ?_ 
          refine mm_wgoto ?_
          have e1 : vb_st1 (I (L + 10)) stk it = I (L + 10) (-1 - it).toNatClampNeg :: stk := by rw [vb_st1_p hlt, if_pos hneg]
          rw [e1] at hfold
          exact ih _ (_ :: stk) _ _ _ _ rfl rfl h6 h7 (hfr.up1) (hst.push _) hwf (by simp only [List.length_cons]; omega) hfold
        · refine mm_wiflt (fun h => absurd h hneg) (fun _ => ?_)
          refine mm_w1 rfl ?_
          refine mm_wgoto ?_
          refine mm_wis (vL_S11 hL) (by decide) (by omega) ?_
          refine mm_nincL (ls' := [_, _, _, _, _, _, _, _]) 1 rfl (by decide) rfl ?_
          refine mm_wgoto ?_
          refine mm_nincL (ls' := [_, _, _, _, _, _, _, _]) 1 rfl (by decide) rfl ?_
          refine mm_wgoto ?_
          have e1 : vb_st1 (I (L + 10)) stk it = it :: stk := by rw [vb_st1_p hlt, if_neg hneg]
          rw [e1] at hfold
          exact ih _ (_ :: stk) _ _ _ _ rfl rfl h6 h7 (hfr.up1) (hst.push _) hwf (by simp only [List.length_cons]; omega) hfold 
    · have hnl : ¬ (-1 - it) < vb_i 8 := by rw [hjj, vb_lt (by omega) (by omega)]; omega
      refine mm_wicge (fun _ => ?_) (fun h => absurd h hnl)
      obtain ⟨rr, ll, s2, rfl⟩ := vb_two h2
      have p1 := hst.pop
      have p2 := p1.1.pop
      simp only [List.length_cons] at h64 hwf p1 ⊢
      have e1 : vb_st1 (I (L + 10)) (rr :: ll :: s2) it = vb_op (-1 - it) ll rr :: s2 := vb_st1_o hnl
      rw [e1] at hfold
      have fin2 : ∀ y : Int32, y = vb_op (-1 - it) ll rr → mm_W G d 68 (mm_blk 68 283) [.ref (L + 6), .int (vb_i r), .int (vb_i (s2.length + 1)), .int (vb_i (s + i)), .int it, .int (-1 - it), .int y, .int rr] [] (I1, P, J, S, nc, ns) (vb_R (some (.int ((c.foldl (vb_st1 (I (L + 10))) []).headD 0))) (fun I' => vb_fr (fun a => a = L + 11) I I') P J S nc ns) := by
        intro y hy
        refine mm_w1 rfl ?_
        refine mm_wgr (vL_S6 hL) (by decide) (by decide) (vL_P6_5 hL) (vL_a11 hL) ?_
        refine mm_w1 rfl ?_
        refine mm_wv (vb_i 1) rfl (by decide) ?_
        refine mm_nsub (by omega) ?_
        refine mm_w1 rfl ?_
        refine mm_wis (vL_S11 hL) (by decide) (by omega) ?_
        refine mm_nincL (ls' := [_, _, _, _, _, _, _, _]) 1 rfl (by decide) rfl ?_
        refine mm_wgoto ?_
        rw [← hy] at hfold
        rw [Nat.add_sub_cancel]
        exact ih _ (y :: s2) _ _ _ _ rfl rfl rfl rfl (hfr.up1) (p2.1.push y) hwf (by simp only [List.length_cons]; omega) hfold
      refine mm_w1 rfl ?_
      refine mm_wv (vb_i 2) rfl (by decide) ?_
      refine mm_niclt (by omega) (by omega) ?_ ?_
      · intro h88
        omega
      · intro h88
        refine mm_ndecL (ls' := [_, _, _, _, _, _, _, _]) 1 rfl (by decide) (by omega) rfl ?_
        refine mm_w1 rfl ?_
        refine mm_wgr (vL_S6 hL) (by decide) (by decide) (vL_P6_5 hL) (vL_a11 hL) ?_
        refine mm_w1 rfl ?_
        refine mm_wv (vb_i 1) rfl (by decide) ?_
        refine mm_nsub (by omega) ?_
        refine mm_wiav ll (vL_a11 hL) (vL_S11 hL) (by decide) (by omega) (by rw [show s2.length + 1 + 1 - 1 - 1 = s2.length by omega]; exact p2.2) ?_ 
        refine mm_w1 (ls' := [_, _, _, _, _, _, _, _]) rfl ?_
        refine mm_w1 rfl ?_
        refine mm_wgr (vL_S6 hL) (by decide) (by decide) (vL_P6_5 hL) (vL_a11 hL) ?_
        refine mm_w1 rfl ?_
        refine mm_wiav rr (vL_a11 hL) (vL_S11 hL) (by decide) (by omega) (by rw [show s2.length + 1 + 1 - 1 = s2.length + 1 by omega]; exact p1.2) ?_ 
        refine mm_w1 (ls' := [_, _, _, _, _, _, _, _]) rfl ?_
        refine mm_w1 rfl ?_
        rw [show s2.length + 1 + 1 - 1 = s2.length + 1 by omega]
        have hj9 : jj = 0 ∨ jj = 1 ∨ jj = 2 ∨ jj = 3 ∨ jj = 4 ∨ jj = 5 ∨ jj = 6 ∨ jj = 7 := by omega
        rcases hj9 with rfl | rfl | rfl | rfl | rfl | rfl | rfl | rfl
        · have fin3 : ∀ y, y = vb_op (vb_i (8 + 0)) ll rr → _ := fun y h => fin2 y (by rw [hjj]; exact h)
          refine mm_wts 160 (by rw [hjj]; decide +kernel) ?_
          refine mm_w1 rfl ?_
          refine mm_wifeq ?_ ?_
          · intro h162
            refine mm_wv (vb_i 0) rfl (by decide) ?_
            refine mm_w1 (ls' := [_, _, _, _, _, _, _, _]) rfl ?_
            refine mm_wgoto ?_
            refine fin3 _ ?_
            first | exact vo_8a h162 rfl | exact vo_8b h167 rfl | exact vo_8c h162 h167 rfl 
          · intro h162
            refine mm_w1 rfl ?_
            refine mm_wifeq ?_ ?_
            · intro h167
              refine mm_wv (vb_i 0) rfl (by decide) ?_
              refine mm_w1 (ls' := [_, _, _, _, _, _, _, _]) rfl ?_
              refine mm_wgoto ?_
              refine fin3 _ ?_
              first | exact vo_8a h162 rfl | exact vo_8b h167 rfl | exact vo_8c h162 h167 rfl 
            · intro h167
              refine mm_wv (vb_i 1) rfl (by decide) ?_
              refine mm_wgoto ?_
              refine mm_w1 (ls' := [_, _, _, _, _, _, _, _]) rfl ?_
              refine mm_wgoto ?_
              refine fin3 _ ?_
              first | exact vo_8a h162 rfl | exact vo_8b h167 rfl | exact vo_8c h162 h167 rfl 
        · have fin3 : ∀ y, y = vb_op (vb_i (8 + 1)) ll rr → _ := fun y h => fin2 y (by rw [hjj]; exact h)
          refine mm_wts 180 (by rw [hjj]; decide +kernel) ?_
          refine mm_w1 rfl ?_
          refine mm_wifne ?_ ?_
          · intro h182
            refine mm_wv (vb_i 1) rfl (by decide) ?_
            refine mm_wgoto ?_
            refine mm_w1 (ls' := [_, _, _, _, _, _, _, _]) rfl ?_
            refine mm_wgoto ?_
            refine fin3 _ ?_
            first | exact vo_9a h182 rfl | exact vo_9b h182 h187 rfl | exact vo_9c h187 rfl 
          · intro h182
            refine mm_w1 rfl ?_
            refine mm_wifeq ?_ ?_
            · intro h187
              refine mm_wv (vb_i 0) rfl (by decide) ?_
              refine mm_w1 (ls' := [_, _, _, _, _, _, _, _]) rfl ?_
              refine mm_wgoto ?_
              refine fin3 _ ?_
              first | exact vo_9a h182 rfl | exact vo_9b h182 h187 rfl | exact vo_9c h187 rfl 
            · intro h187
              refine mm_wv (vb_i 1) rfl (by decide) ?_
              refine mm_wgoto ?_
              refine mm_w1 (ls' := [_, _, _, _, _, _, _, _]) rfl ?_
              refine mm_wgoto ?_
              refine fin3 _ ?_
              first | exact vo_9a h182 rfl | exact vo_9b h182 h187 rfl | exact vo_9c h187 rfl 
        · have fin3 : ∀ y, y = vb_op (vb_i (8 + 2)) ll rr → _ := fun y h => fin2 y (by rw [hjj]; exact h)
          refine mm_wts 200 (by rw [hjj]; decide +kernel) ?_
          refine mm_w1 rfl ?_
          refine mm_w1 rfl ?_
          refine mm_w1 rfl ?_
          refine mm_w1 (ls' := [_, _, _, _, _, _, _, _]) rfl ?_
          refine mm_wgoto ?_
          refine fin3 _ ?_
          exact vo_10.symm
        · have fin3 : ∀ y, y = vb_op (vb_i (8 + 3)) ll rr → _ := fun y h => fin2 y (by rw [hjj]; exact h)
          refine mm_wts 210 (by rw [hjj]; decide +kernel) ?_
          refine mm_w1 rfl ?_
          refine mm_w1 rfl ?_
          refine mm_w1 rfl ?_
          refine mm_w1 (ls' := [_, _, _, _, _, _, _, _]) rfl ?_
          refine mm_wgoto ?_
          refine fin3 _ ?_
          exact vo_11.symm
        · have fin3 : ∀ y, y = vb_op (vb_i (8 + 4)) ll rr → _ := fun y h => fin2 y (by rw [hjj]; exact h)
          refine mm_wts 220 (by rw [hjj]; decide +kernel) ?_
          refine mm_w1 rfl ?_
          refine mm_w1 rfl ?_
          refine mm_w1 rfl ?_
          refine mm_w1 (ls' := [_, _, _, _, _, _, _, _]) rfl ?_
          refine mm_wgoto ?_
          refine fin3 _ ?_
          exact vo_12.symm
        · have fin3 : ∀ y, y = vb_op (vb_i (8 + 5)) ll rr → _ := fun y h => fin2 y (by rw [hjj]; exact h)
          refine mm_wts 230 (by rw [hjj]; decide +kernel) ?_
          refine mm_w1 rfl ?_
          refine mm_wifne ?_ ?_
          · intro h232
            refine mm_w1 rfl ?_
            refine mm_w1 rfl ?_
            refine mm_wdiv h232 ?_ 
            refine mm_w1 (ls' := [_, _, _, _, _, _, _, _]) rfl ?_
            refine mm_wgoto ?_
            refine fin3 _ ?_
            first | exact vo_13a h232 rfl | exact vo_13b h232 rfl 
          · intro h232
            refine mm_wv (vb_i 0) rfl (by decide) ?_
            refine mm_wgoto ?_
            refine mm_w1 (ls' := [_, _, _, _, _, _, _, _]) rfl ?_
            refine mm_wgoto ?_
            refine fin3 _ ?_
            first | exact vo_13a h232 rfl | exact vo_13b h232 rfl 
        · have fin3 : ∀ y, y = vb_op (vb_i (8 + 6)) ll rr → _ := fun y h => fin2 y (by rw [hjj]; exact h)
          refine mm_wts 249 (by rw [hjj]; decide +kernel) ?_
          refine mm_w1 rfl ?_
          refine mm_w1 rfl ?_
          refine mm_wicge ?_ ?_
          · intro h253
            refine mm_wv (vb_i 0) rfl (by decide) ?_
            refine mm_w1 (ls' := [_, _, _, _, _, _, _, _]) rfl ?_
            refine mm_wgoto ?_
            refine fin3 _ ?_
            first | exact vo_14a h253 rfl | exact vo_14b h253 rfl 
          · intro h253
            refine mm_wv (vb_i 1) rfl (by decide) ?_
            refine mm_wgoto ?_
            refine mm_w1 (ls' := [_, _, _, _, _, _, _, _]) rfl ?_
            refine mm_wgoto ?_
            refine fin3 _ ?_
            first | exact vo_14a h253 rfl | exact vo_14b h253 rfl 
        · have fin3 : ∀ y, y = vb_op (vb_i (8 + 7)) ll rr → _ := fun y h => fin2 y (by rw [hjj]; exact h)
          refine mm_wts 266 (by rw [hjj]; decide +kernel) ?_
          refine mm_w1 rfl ?_
          refine mm_w1 rfl ?_
          refine mm_wicne ?_ ?_
          · intro h270
            refine mm_wv (vb_i 0) rfl (by decide) ?_
            refine mm_w1 (ls' := [_, _, _, _, _, _, _, _]) rfl ?_
            refine mm_wgoto ?_
            refine fin3 _ ?_
            first | exact vo_15a h270 rfl | exact vo_15b h270 rfl 
          · intro h270
            refine mm_wv (vb_i 1) rfl (by decide) ?_
            refine mm_wgoto ?_
            refine mm_w1 (ls' := [_, _, _, _, _, _, _, _]) rfl ?_
            refine mm_wgoto ?_
            refine fin3 _ ?_
            first | exact vo_15a h270 rfl | exact vo_15b h270 rfl   
  have loop := vb_down (p := fun i => ∀ (I1 : Nat → Nat → Int32) (stk : List Int32) (x4 x5 x6 x7 : Value) (h4 : x4.category = 1) (h5 : x5.category = 1) (h6 : x6.category = 1) (h7 : x7.category = 1), vb_fr (fun a => a = L + 11) I I1 → vb_stk I1 (L + 11) stk → vb_wf (c.drop i) stk.length → stk.length ≤ 64 → (c.drop i).foldl (vb_st1 (I (L + 10))) stk = c.foldl (vb_st1 (I (L + 10))) [] →
      mm_W G d 68 (mm_blk 68 20) [.ref (L + 6), .int (vb_i r), .int (vb_i stk.length), .int (vb_i (s + i)), x4, x5, x6, x7] [] (I1, P, J, S, nc, ns) (vb_R (some (.int ((c.foldl (vb_st1 (I (L + 10))) []).headD 0))) (fun I' => vb_fr (fun a => a = L + 11) I I') P J S nc ns)) c.length (by
    intro i hi ih I1 stk x4 x5 x6 x7 h4 h5 h6 h7 hfr hst hwf h64 hfold
    have q : ∀ j, j ≠ 11 → I1 (L + j) = I (L + j) := fun j hj => hfr _ (by omega)
    have q9 : I1 (L + 9) r = vb_i (s + c.length) := by rw [q 9 (by omega)]; exact he
    refine mm_w1 rfl ?_
    refine mm_w1 rfl ?_
    refine mm_wgr (vL_S6 hL) (by decide) (by decide) (vL_P6_3 hL) (vL_a9 hL) ?_
    refine mm_w1 rfl ?_
    refine mm_wiav (vb_i (s + c.length)) (vL_a9 hL) (vL_S9 hL) (by decide) (by omega) q9 ?_
    refine mm_nicge (by omega) (by omega) ?_ ?_
    · intro hx
      have e : c.drop i = [] := List.drop_eq_nil_of_le (by omega)
      rw [e, List.foldl_nil] at hfold
      refine fin I1 stk x4 x5 x6 x7 i hfr hst h64 hfold
    · intro hx
      replace hx : i < c.length := by omega
      have dr := vb_drop (c := c) (i := i) (by omega)
      have q7 : I1 (L + 7) (s + i) = c.getD i 0 := by rw [q 7 (by omega)]; exact hc i (by omega)
      rw [dr] at hwf hfold
      simp only [vb_wf] at hwf
      simp only [List.foldl_cons] at hfold
      generalize c.getD i 0 = it at *
      exact body i hx I1 stk it x4 x5 x6 x7 h4 h5 h6 h7 hfr hst q7 hwf h64 hfold (ih hx) 
    )
  have z : c.drop 0 = c := rfl
  show mm_W _ _ 68 (mm_blk 68 0) [.ref (L + 6), .int (vb_i r), .null, .null, .null, .null, .null, .null] [] _ _
  refine mm_w1 rfl ?_
  refine mm_niflt (by omega) ?_
  refine mm_w1 rfl ?_
  refine mm_wv (vb_i 3) rfl (by decide) ?_
  refine mm_nicle (by omega) (by omega) ?_ ?_
  · intro h6
    refine mm_wv (vb_i 0) rfl (by decide) ?_
    refine mm_w1 (ls' := [_, _, _, _, _, _, _, _]) rfl ?_
    refine mm_w1 rfl ?_
    refine mm_wgr (vL_S6 hL) (by decide) (by decide) (vL_P6_2 hL) (vL_a8 hL) ?_
    refine mm_w1 rfl ?_
    refine mm_wiav (vb_i s) (vL_a8 hL) (vL_S8 hL) (by decide) (by omega) hs ?_
    refine mm_w1 (ls' := [_, _, _, _, _, _, _, _]) rfl ?_
    exact loop 0 (by omega) I [] _ _ _ _ rfl rfl rfl rfl vb_fr.rf (fun j x hj => absurd hj (by simp)) (by rw [z]; exact hw) (by simp) (by rw [z])
  · intro h6
    omega
end RULES
