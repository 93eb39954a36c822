/-! A WIN -/
def vm_w1 (ℓ : vb_L) (x : vb_X) (t : Nat) : Bool := (vx_msT ℓ x t).any (fun m => vx_s (vx_doT ℓ x t m) (1 - t) == 0)
def vm_w2 (ℓ : vb_L) (x : vb_X) (t : Nat) : Bool := (vm_al ℓ x t 0).all (fun m => vm_w1 ℓ (vx_doT ℓ x t m) (1 - t))
def vm_w3 (ℓ : vb_L) (x : vb_X) (t : Nat) : Bool := (vm_al ℓ x t 0).any (fun m => vm_w2 ℓ (vx_doT ℓ x t m) (1 - t))
theorem vb_cnt_le1 {n c : Nat} {p q : Nat → Bool} (h : ∀ v, v < n → v ≠ c → p v = true → q v = true) : vb_cnt n p ≤ vb_cnt n q + 1 ∧ (n ≤ c → vb_cnt n p ≤ vb_cnt n q) := by
  induction n with
  | zero => exact ⟨Nat.zero_le _, fun _ => Nat.le_refl _⟩
  | succ n ih =>
    obtain ⟨i1, i2⟩ := ih (fun v hv => h v (by omega))
    simp only [vb_cnt]
    have p1 : (p n).toNat ≤ 1 := by cases p n <;> decide
    by_cases e : n = c
    · have := i2 (by omega)
      exact ⟨by omega, fun hh => by omega⟩
    · have h2 : (p n).toNat ≤ (q n).toNat := by
        have := h n (by omega) e
        cases hp : p n
        · exact Nat.zero_le _
        · rw [this hp]; exact Nat.le_refl _
      refine ⟨by omega, fun hh => ?_⟩
      have := i2 (by omega)
      omega
theorem vb_cnt_0 {n : Nat} : vb_cnt n (vb_has 0) = 0 := by
  induction n with
  | zero => rfl
  | succ n ih => simp only [vb_cnt, ih, vb_has_0]; rfl
theorem vb_cnt_off {foe : Int32} {to : Nat} (ht : to < 32) : vb_cnt 10 (vb_has foe) ≤ vb_cnt 10 (vb_has (foe &&& ~~~ vb_bit to)) + 1 := by
  refine (vb_cnt_le1 (c := to) (fun v hv hne hp => ?_)).1
  rw [vb_has_and, vb_has_not _ (by omega), vb_has_bit ht, hp, decide_eq_false hne]; rfl
theorem vb_any_cg {α : Type} {l : List α} {f g : α → Bool} (h : ∀ p, p ∈ l → f p = g p) : l.any f = l.any g := by
  induction l with
  | nil => rfl
  | cons a l ih => rw [List.any_cons, List.any_cons, h a List.mem_cons_self, ih (fun p hp => h p (List.mem_cons_of_mem _ hp))]
section
variable {ℓ : vb_L} {x : vb_X} {t : Nat}
theorem vm_doT_foe (ht : t < 2) {m : Nat} (hm : m ≠ 100) : vx_s (vx_doT ℓ x t m) (1 - t) = vx_s x (1 - t) &&& ~~~ vb_bit (m % 10) := by
  rw [vm_doT_s, if_neg hm]; exact if_neg (by omega)
theorem vm_doT_own {m : Nat} (hm : m ≠ 100) : vx_s (vx_doT ℓ x t m) t = vb_mvd (vx_s x t) (m / 10) (m % 10) := by
  rw [vm_doT_s, if_neg hm]; exact if_pos rfl
theorem vm_doT_p (j : Nat) : vx_s (vx_doT ℓ x t 100) j = vx_s x j := by rw [vm_doT_s, if_pos rfl]
theorem vb_fw1 (own foe ev : Int32) : vb_fw ℓ 1 true own foe ev = (decide (vb_cnt 10 (vb_has foe) ≤ 1) && ((vb_ms ℓ own foe ev).any (fun m => (foe &&& ~~~ vb_bit (m % 10)) == 0) || (foe == 0))) := by
  simp only [vb_fw]
theorem vb_fw_f (k : Nat) (own foe ev : Int32) : vb_fw ℓ (k + 1) false own foe ev = ((foe == 0) || (decide (1 ≤ k) && vb_fw ℓ k true own foe (ev + vb_i 1) && (vb_ms ℓ foe own ev).all (fun m => vb_fw ℓ k true (own &&& ~~~ vb_bit (m % 10)) (vb_mvd foe (m / 10) (m % 10)) (ev + vb_i 1)))) := by rw [vb_fw]
theorem vb_fw2 (own foe ev : Int32) : vb_fw ℓ 2 false own foe ev = ((foe == 0) || (vb_fw ℓ 1 true own foe (ev + vb_i 1) && (vb_ms ℓ foe own ev).all (fun m => vb_fw ℓ 1 true (own &&& ~~~ vb_bit (m % 10)) (vb_mvd foe (m / 10) (m % 10)) (ev + vb_i 1)))) := by
  have h := vb_fw_f (ℓ := ℓ) 1 own foe ev
  rw [decide_eq_true (Nat.le_refl 1), Bool.true_and] at h
  exact h
theorem vb_fw3 (own foe ev : Int32) : vb_fw ℓ 3 true own foe ev = (decide (vb_cnt 10 (vb_has foe) ≤ 2) && ((vb_ms ℓ own foe ev).any (fun m => vb_fw ℓ 2 false (vb_mvd own (m / 10) (m % 10)) (foe &&& ~~~ vb_bit (m % 10)) (ev + vb_i 1)) || vb_fw ℓ 2 false own foe (ev + vb_i 1))) := by
  rw [vb_fw]
theorem vm_W1 (ht : t < 2) (h0 : ¬ vx_s x (1 - t) = 0) : vb_fw ℓ 1 true (vx_s x t) (vx_s x (1 - t)) (vb_i (vx_e x)) = vm_w1 ℓ x t := by
  have hany : (vb_ms ℓ (vx_s x t) (vx_s x (1 - t)) (vb_i (vx_e x))).any (fun m => (vx_s x (1 - t) &&& ~~~ vb_bit (m % 10)) == 0) = vm_w1 ℓ x t := by
    rw [vm_w1, vx_msT]
    refine vb_any_cg (fun m hm => ?_)
    rw [vm_doT_foe ht (vm_msT_ne hm)]
  rw [vb_fw1, vb_neb h0, Bool.or_false, hany]
  cases hw : vm_w1 ℓ x t with
  | false => rw [Bool.and_false]
  | true =>
    rw [← hany, List.any_eq_true] at hw
    obtain ⟨m, hm, he⟩ := hw
    have hz : vx_s x (1 - t) &&& ~~~ vb_bit (m % 10) = 0 := by simpa using he
    have h1 := vb_cnt_off (foe := vx_s x (1 - t)) (to := m % 10) (by omega)
    rw [hz, vb_cnt_0] at h1
    rw [decide_eq_true h1]; rfl
theorem vm_mvd_ne {s : Int32} {fr to : Nat} (ht : to < 32) : ¬ vb_mvd s fr to = 0 := fun e => by
  have : vb_has (vb_mvd s fr to) to = true := by rw [vb_mvd, vb_has_or, vb_has_bit ht, decide_eq_true rfl, Bool.or_true]
  rw [e, vb_has_0] at this; cases this
theorem vm_W2 (ht : t < 2) (h0 : ¬ vx_s x t = 0) : vb_fw ℓ 2 false (vx_s x (1 - t)) (vx_s x t) (vb_i (vx_e x)) = vm_w2 ℓ x t := by
  have e1 : 1 - (1 - t) = t := by omega
  have hp : vb_fw ℓ 1 true (vx_s x (1 - t)) (vx_s x t) (vb_i (vx_e x) + vb_i 1) = vm_w1 ℓ (vx_doT ℓ x t 100) (1 - t) := by
    have := vm_W1 (ℓ := ℓ) (x := vx_doT ℓ x t 100) (t := 1 - t) (by omega) (by rw [e1, vm_doT_p]; exact h0)
    rw [e1, vm_doT_p, vm_doT_p, vm_af_e] at this
    rw [vb_add]; exact this
  have ha : (vb_ms ℓ (vx_s x t) (vx_s x (1 - t)) (vb_i (vx_e x))).all (fun m => vb_fw ℓ 1 true (vx_s x (1 - t) &&& ~~~ vb_bit (m % 10)) (vb_mvd (vx_s x t) (m / 10) (m % 10)) (vb_i (vx_e x) + vb_i 1)) = (vx_msT ℓ x t).all (fun m => vm_w1 ℓ (vx_doT ℓ x t m) (1 - t)) := by
    rw [vx_msT]
    refine vb_all_cg (fun m hm => ?_)
    have hne : m ≠ 100 := vm_msT_ne (x := x) (t := t) hm
    have := vm_W1 (ℓ := ℓ) (x := vx_doT ℓ x t m) (t := 1 - t) (by omega) (by rw [e1, vm_doT_own hne]; exact vm_mvd_ne (by omega))
    rw [e1, vm_doT_foe ht hne, vm_doT_own hne, vm_af_e] at this
    rw [vb_add]; exact this
  rw [vb_fw2, vb_neb h0, Bool.false_or, hp, ha, vm_w2, vm_al0, List.all_append, Bool.and_comm]
  simp
theorem vm_W3 (hn : vb_n ℓ ≤ 10) (ht : t < 2) (h0 : ¬ vx_s x (1 - t) = 0) (h1 : vm_w1 ℓ x t = false) : vb_fw ℓ 3 true (vx_s x t) (vx_s x (1 - t)) (vb_i (vx_e x)) = vm_w3 ℓ x t := by
  have e1 : 1 - (1 - t) = t := by omega
  have hp : vb_fw ℓ 2 false (vx_s x t) (vx_s x (1 - t)) (vb_i (vx_e x) + vb_i 1) = vm_w2 ℓ (vx_doT ℓ x t 100) (1 - t) := by
    have := vm_W2 (ℓ := ℓ) (x := vx_doT ℓ x t 100) (t := 1 - t) (by omega) (by rw [vm_doT_p]; exact h0)
    rw [e1, vm_doT_p, vm_doT_p, vm_af_e] at this
    rw [vb_add]; exact this
  have hfo : ∀ m, m ∈ vx_msT ℓ x t → ¬ (vx_s x (1 - t) &&& ~~~ vb_bit (m % 10)) = 0 := by
    intro m hm e
    have : vm_w1 ℓ x t = true := by
      rw [vm_w1, List.any_eq_true]
      exact ⟨m, hm, by rw [vm_doT_foe ht (vm_msT_ne hm), e]; simp⟩
    rw [this] at h1; cases h1
  have hm2 : ∀ m, m ∈ vx_msT ℓ x t → vb_fw ℓ 2 false (vb_mvd (vx_s x t) (m / 10) (m % 10)) (vx_s x (1 - t) &&& ~~~ vb_bit (m % 10)) (vb_i (vx_e x) + vb_i 1) = vm_w2 ℓ (vx_doT ℓ x t m) (1 - t) := by
    intro m hm
    have hne := vm_msT_ne hm
    have := vm_W2 (ℓ := ℓ) (x := vx_doT ℓ x t m) (t := 1 - t) (by omega) (by rw [vm_doT_foe ht hne]; exact hfo m hm)
    rw [e1, vm_doT_foe ht hne, vm_doT_own hne, vm_af_e] at this
    rw [vb_add]; exact this
  have ha : (vb_ms ℓ (vx_s x t) (vx_s x (1 - t)) (vb_i (vx_e x))).any (fun m => vb_fw ℓ 2 false (vb_mvd (vx_s x t) (m / 10) (m % 10)) (vx_s x (1 - t) &&& ~~~ vb_bit (m % 10)) (vb_i (vx_e x) + vb_i 1)) = (vx_msT ℓ x t).any (fun m => vm_w2 ℓ (vx_doT ℓ x t m) (1 - t)) := by
    rw [vx_msT]
    exact vb_any_cg (fun m hm => hm2 m hm)
  have hall : vm_w3 ℓ x t = ((vx_msT ℓ x t).any (fun m => vm_w2 ℓ (vx_doT ℓ x t m) (1 - t)) || vm_w2 ℓ (vx_doT ℓ x t 100) (1 - t)) := by
    rw [vm_w3, vm_al0, List.any_append]; simp
  rw [vb_fw3, ha, hp, ← hall]
  cases hw : vm_w3 ℓ x t with
  | false => rw [Bool.and_false]
  | true =>
    have hc : vb_cnt 10 (vb_has (vx_s x (1 - t))) ≤ 2 := by
      have k2 : ∀ (own foe ev : Int32), ¬ foe = 0 → vb_fw ℓ 2 false own foe ev = true → vb_cnt 10 (vb_has foe) ≤ 1 := by
        intro own foe ev hz hh
        rw [vb_fw2, vb_neb hz, Bool.false_or, Bool.and_eq_true, vb_fw1, Bool.and_eq_true] at hh
        exact of_decide_eq_true hh.1.1
      rw [hall, Bool.or_eq_true, List.any_eq_true] at hw
      rcases hw with ⟨m, hm, hh⟩ | hh
      · rw [← hm2 m hm] at hh
        have := k2 _ _ _ (hfo m hm) hh
        have := vb_cnt_off (foe := vx_s x (1 - t)) (to := m % 10) (by omega)
        omega
      · rw [← hp] at hh
        have := k2 _ _ _ h0 hh
        omega
    rw [decide_eq_true hc]; rfl
end
section WINS
variable {G : mm_G} {d : Nat} {I : Nat → Nat → Int32} {P : Nat → Nat → Nat} {J : Nat → Nat → Int64} {S : List (Nat × Nat)} {nc ns : Nat} {μ : mm_M} {ℓ : vb_L} {x : vb_X} {b t : Nat}
theorem m_w1 (hM : vm_isM P S) (dM : vm_LD ℓ I) (hR : vm_row ℓ (I 76) b x t) (hb : b + 92 ≤ 276) (hli : vl_inv ℓ) (hlb : vl_bel ℓ) (hwf : vx_wf ℓ x) (he : vx_e x + 1 ≤ 2000) (hd : 5 ≤ d) : mm_C G d 215 [.ref 60, .int (vb_i b)] (I, P, J, S, nc, ns) (vb_R (some (.int (vb_b (vm_w1 ℓ x t)))) (fun I' => vm_lf b I I') P J S nc ns) := by
  have hn := vm_10 dM
  have ht := vm_r2 hR
  have hsj := hwf.sj
  have hfj := hwf.fj
  have hst := hwf.ws
  have hL : vm_lf b I I := vm_lf.rf
  have loop := vb_down (p := fun i => ∀ (I1 : Nat → Nat → Int32), vm_lf b I I1 → (vb_rs (vb_q ℓ (vx_s x t) (vx_s x (1 - t)) (vb_i (vx_e x))) i).any (fun m => vx_s (vx_doT ℓ x t m) (1 - t) == 0) = vm_w1 ℓ x t → mm_W G d 215 (mm_blk 215 12) [.ref 60, .int (vb_i b), .int (vb_i t), .int (vb_i i)] [] (I1, P, J, S, nc, ns) (vb_R (some (.int (vb_b (vm_w1 ℓ x t)))) (fun I' => vm_lf b I I') P J S nc ns)) 100 (by
    intro i hi ih I1 hL1 heq
    have hR1 : vm_row ℓ (I1 76) b x t := hR.lf hn hL1
    have dM1 := dM.lf hL1
    refine mm_w1 rfl ?_
    refine mm_wv (vb_i 100) rfl (by decide) ?_
    refine mm_nicge (by omega) (by omega) ?_ ?_
    · intro h15
      refine mm_wv (vb_i 0) rfl (by decide) ?_
      refine mm_wr rfl rfl rfl ?_
      refine ⟨_, hL1, ?_⟩
      rw [vb_rs_end (by omega)] at heq
      rw [← heq]; rfl
    · intro h15
      refine mm_w1 rfl ?_
      refine mm_w1 rfl ?_
      refine mm_w1 rfl ?_
      refine mm_w1 rfl ?_
      refine mm_cvi (vb_cv (vM_S60 hM) rfl rfl rfl rfl) (by decide) (by omega) (m_mayDo hM dM1 hR1 (by omega) hli hlb hsj hfj hst (by omega) (by omega) (by omega)) ?_
      intro I2 hf2
      have hL2 : vm_lf b I I2 := hL1.tr (vm_lf.of8 hf2)
      have hR2 : vm_row ℓ (I2 76) b x t := hR.lf hn hL2
      have dM2 := dM.lf hL2
      have hmay : vm_may ℓ x t i = (vb_q ℓ (vx_s x t) (vx_s x (1 - t)) (vb_i (vx_e x))) i := by rw [vm_may, decide_eq_false (by omega), Bool.false_or]
      rw [vb_rs_cons (by omega), ← hmay] at heq
      refine mm_bifne ?_ ?_
      · intro h25
        rw [h25, if_pos rfl, List.any_cons] at heq
        have hm1 := vm_may_ok1 hn hli hsj ht (by omega) h25
        have hwf2 := hwf.mvT hn ht hm1.mod
        refine mm_w1 rfl ?_
        refine mm_w1 rfl ?_
        refine mm_w1 rfl ?_
        refine mm_wv (vb_i 46) rfl (by decide) ?_
        refine mm_nadd ?_
        refine mm_cvn (vb_cv (vM_S60 hM) rfl rfl rfl rfl) (by decide) (by omega) (m_lays0 hM (by omega) (by omega) (by omega)) ?_
        intro I3 hq3
        obtain ⟨hc3, ho3, hf3⟩ := hq3
        have hL3 : vm_lf b I I3 := hL2.tr (vm_lf.of76 hf3 (fun j hj => ho3 j (by omega)))
        have hR3 : vm_row ℓ (I3 76) b x t := hR.lf hn hL3
        have dM3 := dM.lf hL3
        have hS3 : vm_row ℓ (I3 76) (b + 46) x t := hR2.mv hn hc3
        refine mm_w1 rfl ?_
        refine mm_w1 rfl ?_
        refine mm_wv (vb_i 46) rfl (by decide) ?_
        refine mm_nadd ?_
        refine mm_w1 rfl ?_
        refine mm_cvn (vb_cv (vM_S60 hM) rfl rfl rfl rfl) (by decide) (by omega) (m_does hM dM3 hS3 (by omega) hsj (by omega) hm1 (by omega)) ?_
        intro I4 hq4
        obtain ⟨hS4, ho4, hf4⟩ := hq4
        have hL4 : vm_lf b I I4 := hL3.tr (vm_lf.of76 hf4 (fun j hj => ho4 j (by omega)))
        have hR4 : vm_row ℓ (I4 76) b x t := hR.lf hn hL4
        have dM4 := dM.lf hL4
        refine mm_w1 rfl ?_
        refine mm_w1 rfl ?_
        refine mm_wv (vb_i 46) rfl (by decide) ?_
        refine mm_nadd ?_
        refine mm_wv (vb_i 1) rfl (by decide) ?_
        refine mm_w1 rfl ?_
        refine mm_nsub (by omega) ?_
        refine mm_cvp (vb_cv (vM_S60 hM) rfl rfl rfl rfl) (by decide) (by omega) (m_stones (sd := 1 - t) hM dM4 hS4 (by omega) (by omega)) ?_
        rw [vm_st_eq hn hwf2.sj (by omega) (hwf2.1 _ (by omega)).1]
        refine mm_wifne ?_ ?_
        · intro h60
          refine mm_nincL (ls' := [_, _, _, _]) 1 rfl (by decide) rfl ?_
          refine mm_wgoto ?_
          rw [vb_neb h60, Bool.false_or] at heq
          exact ih (by omega) _ hL4 heq
        · intro h60
          refine mm_wv (vb_i 1) rfl (by decide) ?_
          refine mm_wr rfl rfl rfl ?_
          refine ⟨_, hL4, ?_⟩
          rw [← heq, vb_eqb h60]; rfl
      · intro h25
        rw [h25, if_neg (by decide)] at heq
        refine mm_wgoto ?_
        refine mm_nincL (ls' := [_, _, _, _]) 1 rfl (by decide) rfl ?_
        refine mm_wgoto ?_
        exact ih (by omega) _ hL2 heq 
    )
  show mm_W _ _ 215 (mm_blk 215 0) [.ref 60, .int (vb_i b), .null, .null] [] _ _
  refine mm_w1 rfl ?_
  refine mm_wgr (vM_S60 hM) (by decide) (by decide) (vM_P60_38 hM) (vM_a76 hM) ?_
  refine mm_w1 rfl ?_
  refine mm_wv (vb_i 43) rfl (by decide) ?_
  refine mm_nadd ?_
  refine mm_wiav _ (vM_a76 hM) (vM_S76 hM) (by decide) (by omega) (vm_ru hR) ?_
  refine mm_w1 (ls' := [_, _, _, _]) rfl ?_
  refine mm_wv (vb_i 0) rfl (by decide) ?_
  refine mm_w1 (ls' := [_, _, _, _]) rfl ?_
  exact loop 0 (by omega) I hL rfl
theorem m_w2 (hM : vm_isM P S) (dM : vm_LD ℓ I) (hR : vm_row ℓ (I 76) b x t) (hb : b + 138 ≤ 276) (hli : vl_inv ℓ) (hlb : vl_bel ℓ) (hwf : vx_wf ℓ x) (he : vx_e x + 2 ≤ 2000) (hd : 6 ≤ d) : mm_C G d 216 [.ref 60, .int (vb_i b)] (I, P, J, S, nc, ns) (vb_R (some (.int (vb_b (vm_w2 ℓ x t)))) (fun I' => vm_lf b I I') P J S nc ns) := by
  have hn := vm_10 dM
  have ht := vm_r2 hR
  have hsj := hwf.sj
  have hfj := hwf.fj
  have hst := hwf.ws
  have hL : vm_lf b I I := vm_lf.rf
  have loop := vb_down (p := fun i => ∀ (I1 : Nat → Nat → Int32), vm_lf b I I1 → (vm_al ℓ x t i).all (fun m => vm_w1 ℓ (vx_doT ℓ x t m) (1 - t)) = vm_w2 ℓ x t → mm_W G d 216 (mm_blk 216 2) [.ref 60, .int (vb_i b), .int (vb_i i)] [] (I1, P, J, S, nc, ns) (vb_R (some (.int (vb_b (vm_w2 ℓ x t)))) (fun I' => vm_lf b I I') P J S nc ns)) 101 (by
    intro i hi ih I1 hL1 heq
    have hR1 : vm_row ℓ (I1 76) b x t := hR.lf hn hL1
    have dM1 := dM.lf hL1
    refine mm_w1 rfl ?_
    refine mm_wv (vb_i 100) rfl (by decide) ?_
    refine mm_nicgt (by omega) (by omega) ?_ ?_
    · intro h5
      refine mm_wv (vb_i 1) rfl (by decide) ?_
      refine mm_wr rfl rfl rfl ?_
      refine ⟨_, hL1, ?_⟩
      rw [vm_al_end (by omega)] at heq
      rw [← heq]; rfl
    · intro h5
      refine mm_w1 rfl ?_
      refine mm_w1 rfl ?_
      refine mm_w1 rfl ?_
      refine mm_w1 rfl ?_
      refine mm_wgr (vM_S60 hM) (by decide) (by decide) (vM_P60_38 hM) (vM_a76 hM) ?_
      refine mm_w1 rfl ?_
      refine mm_wv (vb_i 43) rfl (by decide) ?_
      refine mm_nadd ?_
      refine mm_wiav _ (vM_a76 hM) (vM_S76 hM) (by decide) (by omega) (vm_ru hR1) ?_
      refine mm_cvi (vb_cv (vM_S60 hM) rfl rfl rfl rfl) (by decide) (by omega) (m_mayDo hM dM1 hR1 (by omega) hli hlb hsj hfj hst (by omega) (by omega) (by omega)) ?_
      intro I2 hf2
      have hL2 : vm_lf b I I2 := hL1.tr (vm_lf.of8 hf2)
      have hR2 : vm_row ℓ (I2 76) b x t := hR.lf hn hL2
      have dM2 := dM.lf hL2
      rw [vm_al_cons (by omega)] at heq
      refine mm_bifne ?_ ?_
      · intro h23
        rw [h23, if_pos rfl, List.all_cons] at heq
        have hm1 := vm_may_ok1 hn hli hsj ht (by omega) h23
        have hwf2 := hwf.mvT hn ht hm1.mod
        refine mm_w1 rfl ?_
        refine mm_w1 rfl ?_
        refine mm_w1 rfl ?_
        refine mm_wv (vb_i 46) rfl (by decide) ?_
        refine mm_nadd ?_
        refine mm_cvn (vb_cv (vM_S60 hM) rfl rfl rfl rfl) (by decide) (by omega) (m_lays0 hM (by omega) (by omega) (by omega)) ?_
        intro I3 hq3
        obtain ⟨hc3, ho3, hf3⟩ := hq3
        have hL3 : vm_lf b I I3 := hL2.tr (vm_lf.of76 hf3 (fun j hj => ho3 j (by omega)))
        have hR3 : vm_row ℓ (I3 76) b x t := hR.lf hn hL3
        have dM3 := dM.lf hL3
        have hS3 : vm_row ℓ (I3 76) (b + 46) x t := hR2.mv hn hc3
        refine mm_w1 rfl ?_
        refine mm_w1 rfl ?_
        refine mm_wv (vb_i 46) rfl (by decide) ?_
        refine mm_nadd ?_
        refine mm_w1 rfl ?_
        refine mm_cvn (vb_cv (vM_S60 hM) rfl rfl rfl rfl) (by decide) (by omega) (m_does hM dM3 hS3 (by omega) hsj (by omega) hm1 (by omega)) ?_
        intro I4 hq4
        obtain ⟨hS4, ho4, hf4⟩ := hq4
        have hL4 : vm_lf b I I4 := hL3.tr (vm_lf.of76 hf4 (fun j hj => ho4 j (by omega)))
        have hR4 : vm_row ℓ (I4 76) b x t := hR.lf hn hL4
        have dM4 := dM.lf hL4
        refine mm_w1 rfl ?_
        refine mm_w1 rfl ?_
        refine mm_wv (vb_i 46) rfl (by decide) ?_
        refine mm_nadd ?_
        refine mm_cvi (vb_cv (vM_S60 hM) rfl rfl rfl rfl) (by decide) (by omega) (m_w1 hM dM4 hS4 (by omega) hli hlb hwf2 (by rw [vm_af_e]; omega) (by omega)) ?_
        intro I5 hl5
        have hL5 : vm_lf b I I5 := hL4.tr (hl5.le (by omega))
        have hR5 : vm_row ℓ (I5 76) b x t := hR.lf hn hL5
        have dM5 := dM.lf hL5
        refine mm_bifne ?_ ?_
        · intro h55
          refine mm_nincL (ls' := [_, _, _]) 1 rfl (by decide) rfl ?_
          refine mm_wgoto ?_
          rw [h55, Bool.true_and] at heq
          exact ih (by omega) _ hL5 heq
        · intro h55
          refine mm_wv (vb_i 0) rfl (by decide) ?_
          refine mm_wr rfl rfl rfl ?_
          refine ⟨_, hL5, ?_⟩
          rw [← heq, h55]; rfl
      · intro h23
        rw [h23, if_neg (by decide)] at heq
        refine mm_wgoto ?_
        refine mm_nincL (ls' := [_, _, _]) 1 rfl (by decide) rfl ?_
        refine mm_wgoto ?_
        exact ih (by omega) _ hL2 heq 
    )
  show mm_W _ _ 216 (mm_blk 216 0) [.ref 60, .int (vb_i b), .null] [] _ _
  refine mm_wv (vb_i 0) rfl (by decide) ?_
  refine mm_w1 (ls' := [_, _, _]) rfl ?_
  exact loop 0 (by omega) I hL rfl
end WINS
