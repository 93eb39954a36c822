/-! positions stay in order -/
def vx_doT (ℓ : vb_L) (x : vb_X) (t m : Nat) : vb_X := vx_end ℓ (if m = 100 then x else vx_bring x t (m / 10) (m % 10))
theorem vx_wf.sf {ℓ : vb_L} {x y : vb_X} (h : vx_wf ℓ x) (h1 : vx_s y = vx_s x) (h2 : vx_f y = vx_f x) : vx_wf ℓ y := by
  simp only [vx_wf, h1, h2]; exact h
theorem vx_wf.bring {ℓ : vb_L} {x : vb_X} (h : vx_wf ℓ x) {t fr to : Nat} (hn : vb_n ℓ ≤ 10) (ht : t < 2) (hto : to < vb_n ℓ) : vx_wf ℓ (vx_bring x t fr to) := by
  have hb : vb_below (vb_n ℓ) (vb_bit to) := fun v hv => by rw [vb_has_bit (by omega)] at hv; have := of_decide_eq_true hv; omega
  have hor : ∀ a b : Int32, vb_below (vb_n ℓ) a → vb_below (vb_n ℓ) b → vb_below (vb_n ℓ) (a ||| b) := fun a b h1 h2 v hv => by
    rw [vb_has_or] at hv
    simp only [Bool.or_eq_true] at hv
    exact hv.elim (h1 v) (h2 v)
  have e0 : ∀ j, j < 2 → vx_s (vx_bring x t fr to) j = if j = t then (vx_s x j &&& ~~~ vb_bit fr) ||| vb_bit to else vx_s x j &&& ~~~ vb_bit to := fun _ _ => rfl
  have e1 : ∀ j, j < 2 → vx_f (vx_bring x t fr to) j = if j = t then vx_f x j ||| vb_bit to else vx_f x j &&& ~~~ vb_bit to := fun _ _ => rfl
  have hnt : ∀ (a : Int32) v, vb_has (a &&& ~~~ vb_bit to) v = true → vb_has a v = true ∧ v ≠ to := by
    intro a v hv
    have h32 : v < 32 := by
      by_cases e : v < 32
      · exact e
      · rw [vb_has_ge _ (by omega)] at hv; cases hv
    rw [vb_has_and, vb_has_not _ h32, vb_has_bit (by omega)] at hv
    simp only [Bool.and_eq_true, Bool.not_eq_true', decide_eq_false_iff_not] at hv
    exact hv
  have hmk : ∀ (a : Int32) v, v ≠ to → vb_has a v = true → vb_has (a &&& ~~~ vb_bit to) v = true := by
    intro a v hv ha
    have h32 : v < 32 := by
      by_cases e : v < 32
      · exact e
      · rw [vb_has_ge _ (by omega)] at ha; cases ha
    rw [vb_has_and, vb_has_not _ h32, vb_has_bit (by omega), ha, decide_eq_false hv]; rfl
  have hset : ∀ (a : Int32) v, vb_has (a ||| vb_bit to) v = true → vb_has a v = true ∨ v = to := by
    intro a v hv
    rw [vb_has_or, vb_has_bit (by omega)] at hv
    simpa using hv
  obtain ⟨h1, h2, h3⟩ := h
  refine ⟨fun j hj => ?_, ?_, fun j hj v hv => ?_⟩
  · rw [e0 j hj, e1 j hj]
    obtain ⟨p1, p2⟩ := h1 j hj
    split
    · exact ⟨hor _ _ (vb_below_and p1) hb, hor _ _ p2 hb⟩
    · exact ⟨vb_below_and p1, vb_below_and p2⟩
  · intro v hv
    rw [e1 0 (by decide)] at hv
    rw [e1 1 (by decide)]
    have ht2 : t = 0 ∨ t = 1 := by omega
    rcases ht2 with rfl | rfl
    · rw [if_pos rfl] at hv
      rw [if_neg (by decide)]
      cases hc : vb_has (vx_f x 1 &&& ~~~ vb_bit to) v with
      | false => rfl
      | true =>
        obtain ⟨q1, q2⟩ := hnt _ _ hc
        rcases hset _ _ hv with q3 | q3
        · rw [h2 v q3] at q1; cases q1
        · exact absurd q3 q2
    · rw [if_neg (by decide)] at hv
      rw [if_pos rfl]
      obtain ⟨q1, q2⟩ := hnt _ _ hv
      cases hc : vb_has (vx_f x 1 ||| vb_bit to) v with
      | false => rfl
      | true =>
        rcases hset _ _ hc with q3 | q3
        · rw [h2 v q1] at q3; cases q3
        · exact absurd q3 q2
  · rw [e0 j hj] at hv
    rw [e1 j hj]
    by_cases hjt : j = t
    · rw [if_pos hjt] at hv ⊢
      rcases hset _ _ hv with q | q
      · have : vb_has (vx_s x j) v = true := by
          rw [vb_has_and] at q
          simp only [Bool.and_eq_true] at q
          exact q.1
        rw [vb_has_or, h3 j hj v this]; rfl
      · rw [vb_has_or, vb_has_bit (by omega), decide_eq_true q, Bool.or_true]
    · rw [if_neg hjt] at hv ⊢
      obtain ⟨q1, q2⟩ := hnt _ _ hv
      exact hmk _ _ q2 (h3 j hj v q1)
theorem vx_wf.mvT {ℓ : vb_L} {x : vb_X} (h : vx_wf ℓ x) {t m : Nat} (hn : vb_n ℓ ≤ 10) (ht : t < 2) (hm : m = 100 ∨ m % 10 < vb_n ℓ) : vx_wf ℓ (vx_doT ℓ x t m) := by
  refine vx_wf.sf (x := if m = 100 then x else vx_bring x t (m / 10) (m % 10)) ?_ (vx_end_s _ _) (vx_end_f _ _)
  split
  · exact h
  · rename_i h1
    exact h.bring hn ht (hm.resolve_left h1)
theorem vx_wf.mv {ℓ : vb_L} {x : vb_X} (h : vx_wf ℓ x) {m : Nat} (hn : vb_n ℓ ≤ 10) (hm : m = 100 ∨ m % 10 < vb_n ℓ) : vx_wf ℓ (vx_do ℓ x m) := h.mvT hn (vx_t2 x) hm
theorem vx_wf.play {ℓ : vb_L} {x : vb_X} (h : vx_wf ℓ x) (hn : vb_n ℓ ≤ 10) : vx_wf ℓ (vx_play ℓ x) := h.mv hn (by
  rcases vx_by_told ℓ x with ⟨h1, _⟩ | ⟨_, _, h1, _⟩
  · exact Or.inl h1
  · exact Or.inr h1)
theorem vx_wf.seq {ℓ : vb_L} {x : vb_X} (h : vx_wf ℓ x) (hn : vb_n ℓ ≤ 10) (k : Nat) : vx_wf ℓ (vx_seq ℓ x k) := by
  induction k with
  | zero => exact h
  | succ k ih => exact ih.play hn
theorem vx_getD {ℓ : vb_L} {x : vb_X} (i : Nat) : (vx_ms ℓ x).getD i 100 = 100 ∨ ((vx_ms ℓ x).getD i 100 < 100 ∧ (vx_ms ℓ x).getD i 100 / 10 < vb_n ℓ ∧ (vx_ms ℓ x).getD i 100 % 10 < vb_n ℓ) := by
  by_cases h : i < (vx_ms ℓ x).length
  · right
    have : (vx_ms ℓ x)[i]? = some ((vx_ms ℓ x).getD i 100) := by rw [List.getD_eq_getElem?_getD, List.getElem?_eq_getElem h]; rfl
    exact vb_ms_lt (List.mem_of_getElem? this)
  · left
    rw [List.getD_eq_getElem?_getD, List.getElem?_eq_none (by omega)]; rfl
/-! numbers of some bits -/
theorem vb_smallN {s : Int32} {n : Nat} (h : vb_below n s) : ∃ i, i < 2 ^ n ∧ s = vb_i i := by
  refine ⟨s.toBitVec.toNat, ?_, ?_⟩
  · apply Nat.lt_pow_two_of_testBit
    intro i hi
    have := h i
    cases e : s.toBitVec.toNat.testBit i with
    | false => rfl
    | true =>
      have : i < n := this (by simp only [vb_has, BitVec.getLsbD]; exact e)
      omega
  · apply Int32.toBitVec_inj.mp
    apply BitVec.eq_of_toNat_eq
    simp [vb_i]
theorem vb_msk {k : Nat} (hk : k ≤ 32) (v : Nat) (hv : v < 32) : vb_has (vb_i (2 ^ k - 1)) v = decide (v < k) := by
  rw [vb_has_i _ hv, Nat.testBit_two_pow_sub_one]
def q_ush (s : Int32) : Int32 := (s.toUInt32 >>> ((vb_i 16).toUInt32 &&& Int32.toUInt32 31)).toInt32 &&& vb_i 32767
def q_dr (s : Int32) : Nat := (q_ush s).toNatClampNeg
theorem q_dr_eq (s : Int32) : q_ush s = vb_i (q_dr s) ∧ q_dr s < 32768 := by
  have hb : vb_below 15 (q_ush s) := by
    intro v hv
    have h32 : v < 32 := by
      by_cases e : v < 32
      · exact e
      · rw [vb_has_ge _ (by omega)] at hv; cases hv
    have hm : vb_has (vb_i 32767) v = decide (v < 15) := vb_msk (k := 15) (by decide) v h32
    rw [q_ush, vb_has_and, hm] at hv
    simp only [Bool.and_eq_true, decide_eq_true_eq] at hv
    exact hv.2
  obtain ⟨i, hi, e⟩ := vb_smallN hb
  have hi2 : i < 32768 := hi
  rw [q_dr, e, vb_nat (by omega)]
  exact ⟨rfl, hi2⟩
def q_ys (ℓ : vb_L) (x : vb_X) (sd : Int32) : Nat → vb_X × Int32
  | 0 => (x, sd)
  | k + 1 => (vx_do ℓ (q_ys ℓ x sd k).1 ((vx_ms ℓ (q_ys ℓ x sd k).1).getD (q_dr ((q_ys ℓ x sd k).2 * 1103515245 + vb_i 12345) % ((vx_ms ℓ (q_ys ℓ x sd k).1).length + 1)) 100), (q_ys ℓ x sd k).2 * 1103515245 + vb_i 12345)
theorem q_ys_e (ℓ : vb_L) (x : vb_X) (sd : Int32) (k : Nat) : vx_e (q_ys ℓ x sd k).1 = vx_e x + k := by
  induction k with
  | zero => rfl
  | succ k ih => simp only [q_ys, vx_do_e, ih]; omega
theorem q_ys_wf {ℓ : vb_L} {x : vb_X} {sd : Int32} (h : vx_wf ℓ x) (hn : vb_n ℓ ≤ 10) (k : Nat) : vx_wf ℓ (q_ys ℓ x sd k).1 := by
  induction k with
  | zero => exact h
  | succ k ih =>
    refine ih.mv hn ?_
    rcases vx_getD (ℓ := ℓ) (x := (q_ys ℓ x sd k).1) (q_dr ((q_ys ℓ x sd k).2 * 1103515245 + vb_i 12345) % ((vx_ms ℓ (q_ys ℓ x sd k).1).length + 1)) with h | h
    · exact Or.inl h
    · exact Or.inr h.2.2
theorem vb_below_or {n : Nat} {a b : Int32} (h1 : vb_below n a) (h2 : vb_below n b) : vb_below n (a ||| b) := by
  intro v hv
  rw [vb_has_or] at hv
  simp only [Bool.or_eq_true] at hv
  exact hv.elim (h1 v) (h2 v)
def sp_years (σ : vb_St) (sd k w : Int32) : Int32 ⊕ Nat := match vb_idx 3 w with
  | none => .inr 0
  | some w => match vb_idx 61 k with
    | none => .inr 1
    | some k => .inl (if w = 0 then vb_i (vb_cnt 10 (vb_has (vx_s (q_ys (vs_l σ) (vs_x σ) sd k).1 0 ||| vx_s (q_ys (vs_l σ) (vs_x σ) sd k).1 1))) else vx_t (q_ys (vs_l σ) (vs_x σ) sd k).1 (w - 1))
/-! a game of bribes -/
def q_gn (ℓ : vb_L) (x : vb_X) (a b c j : Nat) : Int32 := vx_t (vx_seq ℓ (vx_sty x (if c / 2 = 0 then a else b) (if c % 2 = 0 then a else b)) 10) j - vx_t x j
def q_rests (ℓ : vb_L) (x : vb_X) (a b c : Nat) : Bool := !decide (q_gn ℓ x a b c 0 < q_gn ℓ x a b ((c + 2) % 4) 0) && !decide (q_gn ℓ x a b c 1 < q_gn ℓ x a b (2 * (c / 2) + (1 - c % 2)) 1)
def q_g1 (r : Nat → Bool) (p : Nat × Int32) (c : Nat) : Nat × Int32 := if r c then (p.1 + 1, vb_i (10 * (c / 2) + c % 2)) else p
def q_game (ℓ : vb_L) (x : vb_X) (a b : Nat) : Nat × Int32 := q_g1 (q_rests ℓ x a b) (q_g1 (q_rests ℓ x a b) (q_g1 (q_rests ℓ x a b) (q_g1 (q_rests ℓ x a b) (0, -1) 3) 2) 1) 0
def sp_game (σ : vb_St) (a b w : Int32) : Int32 ⊕ Nat := match vb_idx (vb_sc (vs_l σ)) a with
  | none => .inr 0
  | some a => match vb_idx (vb_sc (vs_l σ)) b with
    | none => .inr 0
    | some b => match vb_idx 2 w with
      | none => .inr 0
      | some w => if a = b then .inr 1 else .inl (if w = 0 then vb_i (q_game (vs_l σ) (vs_x σ) a b).1 else (q_game (vs_l σ) (vs_x σ) a b).2)
section GAMES
variable {G : mm_G} {d : Nat} {I : Nat → Nat → Int32} {P : Nat → Nat → Nat} {J : Nat → Nat → Int64} {S : List (Nat × Nat)} {nc ns : Nat} {μ : mm_M} {σ : vb_St} {L : Nat}
theorem v_years (hV : vb_isV P S L) (dV : vb_VD σ L I) (hI : vs_inv σ) (hd : 20 ≤ d) (sd k w : Int32) : mm_C G d 108 [.ref 0, .int sd, .int k, .int w] (I, P, J, S, nc, ns) (vb_RV (sp_years σ sd k w) (fun I' => vb_fr (vb_vs L) I I') P J S nc ns) := by
  have hL := vV_hL hV
  have hX := vV_hX hV
  have hY := vV_hY hV
  have hA := vV_hA hV
  have hT := vV_hT hV
  have hC := vV_hC hV
  have hL17 := vV_L17 hV
  have hF : vb_fr (vb_vs L) I I := vb_fr.rf
  have dL := vd_l dV
  have dX := vd_x dV
  have dA := vd_a dV
  have dT := vd_t dV
  have hn := vl_10 dL
  have he := vx_e2 dX
  have ht := vx_t2 (vs_x σ)
  obtain ⟨hIl, hIx, _⟩ := hI
  obtain ⟨hok, hwf, he9⟩ := hIx
  cases hw : vb_idx 3 w with
  | none =>
    rw [show sp_years σ sd k w = .inr 0 by simp only [sp_years, hw]]
    show mm_W _ _ 108 (mm_blk 108 0) [.ref 0, .int sd, .int k, .int w, .null, .null] [] _ _
    refine mm_w1 rfl ?_
    refine mm_wiflt ?_ ?_
    · intro h1
      refine mm_wthr rfl rfl rfl rfl ?_
      exact ⟨I, hF, rfl⟩
    · intro h1
      refine mm_w1 rfl ?_
      refine mm_wv (vb_i 2) rfl (by decide) ?_
      refine mm_wicle ?_ ?_
      · intro h6
        exact vb_idx_no hw h1 (vb_lt_le (by decide) h6)
      · intro h6
        refine mm_wthr rfl rfl rfl rfl ?_
        exact ⟨I, hF, rfl⟩
  | some w_ =>
    obtain ⟨lw, rfl⟩ := vb_idx_some (by decide) hw
    cases hk : vb_idx 61 k with
    | none =>
      rw [show sp_years σ sd k (vb_i w_) = .inr 1 by simp only [sp_years, hw, hk]]
      show mm_W _ _ 108 (mm_blk 108 0) [.ref 0, .int sd, .int k, .int (vb_i w_), .null, .null] [] _ _
      refine mm_w1 rfl ?_
      refine mm_niflt (by omega) ?_
      refine mm_w1 rfl ?_
      refine mm_wv (vb_i 2) rfl (by decide) ?_
      refine mm_nicle (by omega) (by omega) ?_ ?_
      · intro h6
        refine mm_w1 rfl ?_
        refine mm_wiflt ?_ ?_
        · intro h21
          refine mm_wthr rfl rfl rfl rfl ?_
          exact ⟨I, hF, rfl⟩
        · intro h21
          refine mm_w1 rfl ?_
          refine mm_wv (vb_i 60) rfl (by decide) ?_
          refine mm_wicle ?_ ?_
          · intro h27
            exact vb_idx_no hk h21 (vb_lt_le (by decide) h27)
          · intro h27
            refine mm_wthr rfl rfl rfl rfl ?_
            exact ⟨I, hF, rfl⟩
      · intro h6
        exact absurd h6 (by omega)
    | some k_ =>
      obtain ⟨lk, rfl⟩ := vb_idx_some (by decide) hk
      rw [show sp_years σ sd (vb_i k_) (vb_i w_) = .inl (if w_ = 0 then vb_i (vb_cnt 10 (vb_has (vx_s (q_ys (vs_l σ) (vs_x σ) sd k_).1 0 ||| vx_s (q_ys (vs_l σ) (vs_x σ) sd k_).1 1))) else vx_t (q_ys (vs_l σ) (vs_x σ) sd k_).1 (w_ - 1)) by simp only [sp_years, hw, hk]]
      have loop := vb_down (p := fun j => ∀ (I1 : Nat → Nat → Int32), vb_fr (vb_vs L) I I1 → vb_XD (q_ys (vs_l σ) (vs_x σ) sd j).1 35 I1 → mm_W G d 108 (mm_blk 108 58) [.ref 0, .int sd, .int (vb_i k_), .int (vb_i w_), .int (q_ys (vs_l σ) (vs_x σ) sd j).2, .int (vb_i j)] [] (I1, P, J, S, nc, ns) (vb_RV (.inl (if w_ = 0 then vb_i (vb_cnt 10 (vb_has (vx_s (q_ys (vs_l σ) (vs_x σ) sd k_).1 0 ||| vx_s (q_ys (vs_l σ) (vs_x σ) sd k_).1 1))) else vx_t (q_ys (vs_l σ) (vs_x σ) sd k_).1 (w_ - 1))) (fun I' => vb_fr (vb_vs L) I I') P J S nc ns)) k_ (by
        intro j hj ih I1 hF1 dY1
        have dV1 := dV.fr hL17 hF1
        have dL1 := vd_l dV1
        have dX1 := vd_x dV1
        have hye := q_ys_e (vs_l σ) (vs_x σ) sd j
        have hyw := q_ys_wf (sd := sd) hwf hn j
        have hyb := vb_below_mono (vb_below_or (hyw.1 0 (by decide)).1 (hyw.1 1 (by decide)).1) hn
        obtain ⟨hdr, hdl⟩ := q_dr_eq ((q_ys (vs_l σ) (vs_x σ) sd j).2 * 1103515245 + vb_i 12345)
        refine mm_w1 rfl ?_
        refine mm_w1 rfl ?_
        refine mm_nicge (by omega) (by omega) ?_ ?_
        · intro h61
          refine mm_w1 rfl ?_
          refine mm_nifne (by omega) ?_ ?_
          · intro h103
            refine mm_w1 rfl ?_
            refine mm_wgr (vV_S0 hV) (by decide) (by decide) (vV_P0_7 hV) (vX_a0 hY) ?_
            refine mm_wgr (vX_S0 hY) (by decide) (by decide) (vX_P0_2 hY) (vX_a3 hY) ?_
            refine mm_w1 rfl ?_
            refine mm_wv (vb_i 1) rfl (by decide) ?_
            refine mm_nsub (by omega) ?_
            refine mm_wiav _ (vX_a3 hY) (vX_S3 hY) (by decide) (by omega) (vx_ht dY1 (by omega)) ?_
            refine mm_wr rfl rfl rfl ?_
            refine ⟨_, hF1, ?_⟩
            rw [show k_ = j by omega]
            first
              | (rw [if_pos h103]; done)
              | (rw [if_neg h103]; done)
          · intro h103
            refine mm_w1 rfl ?_
            refine mm_wgr (vV_S0 hV) (by decide) (by decide) (vV_P0_7 hV) (vX_a0 hY) ?_
            refine mm_cvp (vb_cv (vX_S0 hY) rfl rfl rfl rfl) (by decide) (by omega) (c_all hY dY1) ?_
            refine mm_csp rfl (by decide) (by omega) (c_bc hyb) ?_
            refine mm_wgoto ?_
            refine mm_wr rfl rfl rfl ?_
            refine ⟨_, hF1, ?_⟩
            rw [show k_ = j by omega]
            first
              | (rw [if_pos h103]; done)
              | (rw [if_neg h103]; done)
        · intro h61
          refine mm_w1 rfl ?_
          refine mm_w1 rfl ?_
          refine mm_w1 rfl ?_
          refine mm_wv (vb_i 12345) rfl (by decide) ?_
          refine mm_w1 rfl ?_
          refine mm_w1 (ls' := [_, _, _, _, _, _]) rfl ?_
          refine mm_w1 rfl ?_
          refine mm_wgr (vV_S0 hV) (by decide) (by decide) (vV_P0_7 hV) (vX_a0 hY) ?_
          refine mm_w1 rfl ?_
          refine mm_wgr (vV_S0 hV) (by decide) (by decide) (vV_P0_5 hV) (vL_a0 hL) ?_
          refine mm_w1 rfl ?_
          refine mm_wv (vb_i 16) rfl (by decide) ?_
          refine mm_w1 rfl ?_
          refine mm_wv (vb_i 32767) rfl (by decide) ?_
          refine mm_wv (vb_i (q_dr ((q_ys (vs_l σ) (vs_x σ) sd j).2 * 1103515245 + vb_i 12345))) rfl hdr ?_ 
          refine mm_cvn (vb_cv (vX_S0 hY) rfl rfl rfl rfl) (by decide) (by omega) (c_draw (ℓ := vs_l σ) hY hL dY1 dL1 (by omega) (by omega) (by omega) (by omega)) ?_
          intro I2 hq2
          obtain ⟨dY2, _, hf2⟩ := hq2
          have hF2 : vb_fr (vb_vs L) I I2 := hF1.tr (hf2.mono (fun a h => by exact h.elim Or.inl (fun h => Or.inr (Or.inl h))))
          have dV2 := dV.fr hL17 hF2
          have dL2 := vd_l dV2
          have dX2 := vd_x dV2
          refine mm_nincL (ls' := [_, _, _, _, _, _]) 1 rfl (by decide) rfl ?_
          refine mm_wgoto ?_
          exact ih (by omega) _ hF2 dY2
        )
      show mm_W _ _ 108 (mm_blk 108 0) [.ref 0, .int sd, .int (vb_i k_), .int (vb_i w_), .null, .null] [] _ _
      refine mm_w1 rfl ?_
      refine mm_niflt (by omega) ?_
      refine mm_w1 rfl ?_
      refine mm_wv (vb_i 2) rfl (by decide) ?_
      refine mm_nicle (by omega) (by omega) ?_ ?_
      · intro h6
        refine mm_w1 rfl ?_
        refine mm_niflt (by omega) ?_
        refine mm_w1 rfl ?_
        refine mm_wv (vb_i 60) rfl (by decide) ?_
        refine mm_nicle (by omega) (by omega) ?_ ?_
        · intro h27
          refine mm_w1 rfl ?_
          refine mm_wgr (vV_S0 hV) (by decide) (by decide) (vV_P0_7 hV) (vX_a0 hY) ?_
          refine mm_w1 rfl ?_
          refine mm_wgr (vV_S0 hV) (by decide) (by decide) (vV_P0_6 hV) (vX_a0 hX) ?_
          refine mm_cvn (vb_cv (vX_S0 hY) rfl rfl rfl rfl) (by decide) (by omega) (c_copyX hY hX dX (by omega)) ?_
          intro I1 hq1
          obtain ⟨dY1, hf1⟩ := hq1
          have hF1 : vb_fr (vb_vs L) I I1 := hF.tr (hf1.mono (fun a h => by exact Or.inr (Or.inl h)))
          have dV1 := dV.fr hL17 hF1
          have dL1 := vd_l dV1
          have dX1 := vd_x dV1
          refine mm_w1 rfl ?_
          refine mm_w1 (ls' := [_, _, _, _, _, _]) rfl ?_
          refine mm_wv (vb_i 0) rfl (by decide) ?_
          refine mm_w1 (ls' := [_, _, _, _, _, _]) rfl ?_
          exact loop 0 (by omega) _ hF1 dY1
        · intro h27
          exact absurd h27 (by omega)
      · intro h6
        exact absurd h6 (by omega)
theorem c_pg (hV : vb_isV P S L) (dV : vb_VD σ L I) {c a b : Nat} (hc : c < 4) (ha : a < vb_sc (vs_l σ)) (hb : b < vb_sc (vs_l σ)) (he9 : vx_e (vs_x σ) ≤ 999) (hd : 8 ≤ d) : mm_C G d 106 [.ref 0, .int (vb_i c), .int (vb_i a), .int (vb_i b)] (I, P, J, S, nc, ns) (vb_R none (fun I' => I' 59 (2 * c) = vx_t (vx_seq (vs_l σ) (vx_sty (vs_x σ) a b) 10) 0 - vx_t (vs_x σ) 0 ∧ I' 59 (2 * c + 1) = vx_t (vx_seq (vs_l σ) (vx_sty (vs_x σ) a b) 10) 1 - vx_t (vs_x σ) 1 ∧ (∀ j, j ≠ 2 * c → j ≠ 2 * c + 1 → I' 59 j = I 59 j) ∧ vb_fr (vb_vs L) I I') P J S nc ns) := by
  have hL := vV_hL hV
  have hX := vV_hX hV
  have hY := vV_hY hV
  have hA := vV_hA hV
  have hT := vV_hT hV
  have hC := vV_hC hV
  have hL17 := vV_L17 hV
  have hF : vb_fr (vb_vs L) I I := vb_fr.rf
  have dL := vd_l dV
  have dX := vd_x dV
  have dA := vd_a dV
  have dT := vd_t dV
  have hn := vl_10 dL
  have he := vx_e2 dX
  have ht := vx_t2 (vs_x σ)
  have loop := vb_down (p := fun j => ∀ (I1 : Nat → Nat → Int32), vb_fr (vb_vs L) I I1 → I1 59 = I 59 → vb_XD (vx_seq (vs_l σ) (vx_sty (vs_x σ) a b) j) 35 I1 → mm_W G d 106 (mm_blk 106 34) [.ref 0, .int (vb_i c), .int (vb_i a), .int (vb_i b), .int (vb_i j)] [] (I1, P, J, S, nc, ns) (vb_R none (fun I' => I' 59 (2 * c) = vx_t (vx_seq (vs_l σ) (vx_sty (vs_x σ) a b) 10) 0 - vx_t (vs_x σ) 0 ∧ I' 59 (2 * c + 1) = vx_t (vx_seq (vs_l σ) (vx_sty (vs_x σ) a b) 10) 1 - vx_t (vs_x σ) 1 ∧ (∀ j, j ≠ 2 * c → j ≠ 2 * c + 1 → I' 59 j = I 59 j) ∧ vb_fr (vb_vs L) I I') P J S nc ns)) 10 (by
    intro j hj ih I1 hF1 h59 dY1
    have dV1 := dV.fr hL17 hF1
    have dL1 := vd_l dV1
    have dX1 := vd_x dV1
    have hse : vx_e (vx_seq (vs_l σ) (vx_sty (vs_x σ) a b) j) = vx_e (vs_x σ) + j := vx_seq_e _ _ _
    have hsk := (vx_sty_ok (x := vs_x σ) ha hb).seq j
    refine mm_w1 rfl ?_
    refine mm_wv (vb_i 10) rfl (by decide) ?_
    refine mm_nicge (by omega) (by omega) ?_ ?_
    · intro h38
      refine mm_w1 rfl ?_
      refine mm_wgr (vV_S0 hV) (by decide) (by decide) (vV_P0_15 hV) (vV_a59 hV) ?_
      refine mm_wv (vb_i 2) rfl (by decide) ?_
      refine mm_w1 rfl ?_
      refine mm_nmul ?_
      refine mm_w1 rfl ?_
      refine mm_wgr (vV_S0 hV) (by decide) (by decide) (vV_P0_7 hV) (vX_a0 hY) ?_
      refine mm_wgr (vX_S0 hY) (by decide) (by decide) (vX_P0_2 hY) (vX_a3 hY) ?_
      refine mm_wv (vb_i 0) rfl (by decide) ?_
      refine mm_wiav _ (vX_a3 hY) (vX_S3 hY) (by decide) (by omega) (vx_ht dY1 (by omega)) ?_ 
      refine mm_w1 rfl ?_
      refine mm_wgr (vV_S0 hV) (by decide) (by decide) (vV_P0_6 hV) (vX_a0 hX) ?_
      refine mm_wgr (vX_S0 hX) (by decide) (by decide) (vX_P0_2 hX) (vX_a3 hX) ?_
      refine mm_wv (vb_i 0) rfl (by decide) ?_
      refine mm_wiav _ (vX_a3 hX) (vX_S3 hX) (by decide) (by omega) (vx_ht dX1 (by omega)) ?_ 
      refine mm_w1 rfl ?_
      refine mm_wis (vV_S59 hV) (by decide) (by omega) ?_
      refine mm_w1 rfl ?_
      refine mm_wgr (vV_S0 hV) (by decide) (by decide) (vV_P0_15 hV) (vV_a59 hV) ?_
      refine mm_wv (vb_i 2) rfl (by decide) ?_
      refine mm_w1 rfl ?_
      refine mm_nmul ?_
      refine mm_wv (vb_i 1) rfl (by decide) ?_
      refine mm_nadd ?_
      refine mm_w1 rfl ?_
      refine mm_wgr (vV_S0 hV) (by decide) (by decide) (vV_P0_7 hV) (vX_a0 hY) ?_
      refine mm_wgr (vX_S0 hY) (by decide) (by decide) (vX_P0_2 hY) (vX_a3 hY) ?_
      refine mm_wv (vb_i 1) rfl (by decide) ?_
      refine mm_wiav (vx_t (vx_seq (vs_l σ) (vx_sty (vs_x σ) a b) j) 1) (vX_a3 hY) (vX_S3 hY) (by decide) (by omega) (by rw [vb_up3 _ _ (by omega)]; exact vx_ht dY1 (by omega)) ?_ 
      refine mm_w1 rfl ?_
      refine mm_wgr (vV_S0 hV) (by decide) (by decide) (vV_P0_6 hV) (vX_a0 hX) ?_
      refine mm_wgr (vX_S0 hX) (by decide) (by decide) (vX_P0_2 hX) (vX_a3 hX) ?_
      refine mm_wv (vb_i 1) rfl (by decide) ?_
      refine mm_wiav (vx_t (vs_x σ) 1) (vX_a3 hX) (vX_S3 hX) (by decide) (by omega) (by rw [vb_up3 _ _ (by omega)]; exact vx_ht dX1 (by omega)) ?_ 
      refine mm_w1 rfl ?_
      refine mm_wis (vV_S59 hV) (by decide) (by omega) ?_
      refine mm_wr rfl rfl rfl ?_
      have e : j = 10 := by omega
      subst e
      refine ⟨_, ⟨?_, ?_, ?_, ?_⟩, rfl⟩
      · rw [vb_up2 _ _ (by omega), vb_up1]
      · rw [vb_up1]
      · intro j h1 h2; rw [vb_up2 _ _ (by omega), vb_up2 _ _ (by omega), h59]
      · exact (hF1.up (Or.inr (Or.inr (Or.inr rfl)))).up (Or.inr (Or.inr (Or.inr rfl)))
    · intro h38
      refine mm_w1 rfl ?_
      refine mm_wgr (vV_S0 hV) (by decide) (by decide) (vV_P0_7 hV) (vX_a0 hY) ?_
      refine mm_w1 rfl ?_
      refine mm_wgr (vV_S0 hV) (by decide) (by decide) (vV_P0_5 hV) (vL_a0 hL) ?_
      refine mm_cvi (vb_cv (vX_S0 hY) rfl rfl rfl rfl) (by decide) (by omega) (c_play (ℓ := vs_l σ) hY hL dY1 dL1 (by omega) (by omega) hsk (by omega)) ?_
      intro I2 hq2
      obtain ⟨dY2, _, hf2⟩ := hq2
      have h592 : I2 59 = I1 59 := hf2 _ (fun h => by simp only [vb_pc, vb_scr, vb_xc] at h; omega)
      have hF2 : vb_fr (vb_vs L) I I2 := hF1.tr (hf2.mono (fun a h => by exact h.elim Or.inl (fun h => Or.inr (Or.inl h))))
      have dV2 := dV.fr hL17 hF2
      have dL2 := vd_l dV2
      have dX2 := vd_x dV2
      refine mm_w1 rfl ?_
      refine mm_nincL (ls' := [_, _, _, _, _]) 1 rfl (by decide) rfl ?_
      refine mm_wgoto ?_
      exact ih (by omega) _ hF2 (by rw [h592]; exact h59) dY2
    )
  show mm_W _ _ 106 (mm_blk 106 0) [.ref 0, .int (vb_i c), .int (vb_i a), .int (vb_i b), .null] [] _ _
  refine mm_w1 rfl ?_
  refine mm_wgr (vV_S0 hV) (by decide) (by decide) (vV_P0_7 hV) (vX_a0 hY) ?_
  refine mm_w1 rfl ?_
  refine mm_wgr (vV_S0 hV) (by decide) (by decide) (vV_P0_6 hV) (vX_a0 hX) ?_
  refine mm_cvn (vb_cv (vX_S0 hY) rfl rfl rfl rfl) (by decide) (by omega) (c_copyX hY hX dX (by omega)) ?_
  intro I1 hq1
  obtain ⟨dY1, hf1⟩ := hq1
  have hF1 : vb_fr (vb_vs L) I I1 := hF.tr (hf1.mono (fun a h => by exact Or.inr (Or.inl h)))
  have dV1 := dV.fr hL17 hF1
  have dL1 := vd_l dV1
  have dX1 := vd_x dV1
  refine mm_w1 rfl ?_
  refine mm_wgr (vV_S0 hV) (by decide) (by decide) (vV_P0_7 hV) (vX_a0 hY) ?_
  refine mm_wgr (vX_S0 hY) (by decide) (by decide) (vX_P0_3 hY) (vX_a4 hY) ?_
  refine mm_wv (vb_i 0) rfl (by decide) ?_
  refine mm_w1 rfl ?_
  refine mm_wis (vX_S4 hY) (by decide) (by omega) ?_
  refine mm_w1 rfl ?_
  refine mm_wgr (vV_S0 hV) (by decide) (by decide) (vV_P0_7 hV) (vX_a0 hY) ?_
  refine mm_wgr (vX_S0 hY) (by decide) (by decide) (vX_P0_3 hY) (vX_a4 hY) ?_
  refine mm_wv (vb_i 1) rfl (by decide) ?_
  refine mm_w1 rfl ?_
  refine mm_wis (vX_S4 hY) (by decide) (by omega) ?_
  refine mm_wv (vb_i 0) rfl (by decide) ?_
  refine mm_w1 (ls' := [_, _, _, _, _]) rfl ?_
  obtain ⟨a1, a2, a3, a4, a5, a6, a7⟩ := dY1
  refine loop 0 (by omega) _ ((hF1.up (Or.inr (Or.inl ⟨by omega, by omega⟩))).up (Or.inr (Or.inl ⟨by omega, by omega⟩))) ?_ ?_
  · rw [vb_up3 _ _ (by omega), vb_up3 _ _ (by omega)]
    exact hf1 _ (fun h => by simp only [vb_xc] at h; omega)
  · refine ⟨?_, ?_, ?_, ?_, ?_, ?_, a7⟩
    · intro j hj; rw [vb_up3 _ _ (by omega), vb_up3 _ _ (by omega)]; exact a1 j hj
    · intro j hj; rw [vb_up3 _ _ (by omega), vb_up3 _ _ (by omega)]; exact a2 j hj
    · intro j hj; rw [vb_up3 _ _ (by omega), vb_up3 _ _ (by omega)]; exact a3 j hj
    · intro j hj
      by_cases h0 : j = 0
      · subst h0; rw [vb_up2 _ _ (by omega), vb_up1]; rfl
      · have h1 : j = 1 := by omega
        subst h1; rw [vb_up1]; rfl
    · intro j hj; rw [vb_up3 _ _ (by omega), vb_up3 _ _ (by omega)]; exact a5 j hj
    · rw [vb_up3 _ _ (by omega), vb_up3 _ _ (by omega)]; exact a6
theorem vb_xor2 : ∀ c, c < 4 → vb_i c ^^^ vb_i 2 = vb_i ((c + 2) % 4) ∧ vb_i c ^^^ vb_i 1 = vb_i (2 * (c / 2) + (1 - c % 2)) := by decide
theorem c_rests {c a b : Nat} (hV : vb_isV P S L) (hc : c < 4) (hg : ∀ c, c < 4 → I 59 (2 * c) = q_gn (vs_l σ) (vs_x σ) a b c 0 ∧ I 59 (2 * c + 1) = q_gn (vs_l σ) (vs_x σ) a b c 1) : mm_Call G d 107 [.ref 0, .int (vb_i c)] (I, P, J, S, nc, ns) (.inl (some (.int (vb_b (q_rests (vs_l σ) (vs_x σ) a b c)))), (I, P, J, S, nc, ns)) := by
  obtain ⟨x1, x2⟩ := vb_xor2 c hc
  refine mm_C.call ?_
  show mm_W _ _ 107 (mm_blk 107 0) [.ref 0, .int (vb_i c), .null, .null] [] _ _
  refine mm_w1 rfl ?_
  refine mm_wv (vb_i 2) rfl (by decide) ?_
  refine mm_wv (vb_i ((c + 2) % 4)) rfl x1 ?_ 
  refine mm_w1 (ls' := [_, _, _, _]) rfl ?_
  refine mm_w1 rfl ?_
  refine mm_wv (vb_i 1) rfl (by decide) ?_
  refine mm_wv (vb_i (2 * (c / 2) + (1 - c % 2))) rfl x2 ?_ 
  refine mm_w1 (ls' := [_, _, _, _]) rfl ?_
  refine mm_w1 rfl ?_
  refine mm_wgr (vV_S0 hV) (by decide) (by decide) (vV_P0_15 hV) (vV_a59 hV) ?_
  refine mm_wv (vb_i 2) rfl (by decide) ?_
  refine mm_w1 rfl ?_
  refine mm_nmul ?_
  refine mm_wiav (q_gn (vs_l σ) (vs_x σ) a b ((c + 2) % 4) 0) (vV_a59 hV) (vV_S59 hV) (by decide) (by omega) (hg _ (by omega)).1 ?_ 
  refine mm_w1 rfl ?_
  refine mm_wgr (vV_S0 hV) (by decide) (by decide) (vV_P0_15 hV) (vV_a59 hV) ?_
  refine mm_wv (vb_i 2) rfl (by decide) ?_
  refine mm_w1 rfl ?_
  refine mm_nmul ?_
  refine mm_wiav (q_gn (vs_l σ) (vs_x σ) a b c 0) (vV_a59 hV) (vV_S59 hV) (by decide) (by omega) (hg _ (by omega)).1 ?_ 
  refine mm_wicgt ?_ ?_
  · intro h24
    refine mm_wv (vb_i 0) rfl (by decide) ?_
    refine mm_wr rfl rfl rfl ?_
    rw [q_rests]
    first
      | (rw [decide_eq_true h24]; rfl)
      | (rw [decide_eq_false h24, decide_eq_true h47]; rfl)
      | (rw [decide_eq_false h24, decide_eq_false h47]; rfl)
  · intro h24
    refine mm_w1 rfl ?_
    refine mm_wgr (vV_S0 hV) (by decide) (by decide) (vV_P0_15 hV) (vV_a59 hV) ?_
    refine mm_wv (vb_i 2) rfl (by decide) ?_
    refine mm_w1 rfl ?_
    refine mm_nmul ?_
    refine mm_wv (vb_i 1) rfl (by decide) ?_
    refine mm_nadd ?_
    refine mm_wiav (q_gn (vs_l σ) (vs_x σ) a b (2 * (c / 2) + (1 - c % 2)) 1) (vV_a59 hV) (vV_S59 hV) (by decide) (by omega) (hg _ (by omega)).2 ?_ 
    refine mm_w1 rfl ?_
    refine mm_wgr (vV_S0 hV) (by decide) (by decide) (vV_P0_15 hV) (vV_a59 hV) ?_
    refine mm_wv (vb_i 2) rfl (by decide) ?_
    refine mm_w1 rfl ?_
    refine mm_nmul ?_
    refine mm_wv (vb_i 1) rfl (by decide) ?_
    refine mm_nadd ?_
    refine mm_wiav (q_gn (vs_l σ) (vs_x σ) a b c 1) (vV_a59 hV) (vV_S59 hV) (by decide) (by omega) (hg _ (by omega)).2 ?_ 
    refine mm_wicgt ?_ ?_
    · intro h47
      refine mm_wv (vb_i 0) rfl (by decide) ?_
      refine mm_wr rfl rfl rfl ?_
      rw [q_rests]
      first
        | (rw [decide_eq_true h24]; rfl)
        | (rw [decide_eq_false h24, decide_eq_true h47]; rfl)
        | (rw [decide_eq_false h24, decide_eq_false h47]; rfl)
    · intro h47
      refine mm_wv (vb_i 1) rfl (by decide) ?_
      refine mm_wgoto ?_
      refine mm_wr rfl rfl rfl ?_
      rw [q_rests]
      first
        | (rw [decide_eq_true h24]; rfl)
        | (rw [decide_eq_false h24, decide_eq_true h47]; rfl)
        | (rw [decide_eq_false h24, decide_eq_false h47]; rfl)
end GAMES
