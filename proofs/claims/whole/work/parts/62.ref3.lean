section REF3
variable {G : mm_G} {d : Nat} {I : Nat → Nat → Int32} {P : Nat → Nat → Nat} {J : Nat → Nat → Int64} {S : List (Nat × Nat)} {nc ns : Nat} {μ : mm_M} {ℓ : vb_L} {x : vb_X} {b t : Nat}
theorem vm_fold_cg {co : Nat → Int32} {v v' : Nat → Int32} (hv : ∀ j, j < 8 → v j = v' j) : ∀ (c : List (Nat × Int32)) (k h : Nat) (stk : List Int32), vm_ok co c k h → c.foldl (vm_st v) stk = c.foldl (vm_st v') stk := by
  intro c
  induction c with
  | nil => intro k h stk _; rfl
  | cons p c ih =>
    intro k h stk hok
    obtain ⟨q, ar⟩ := p
    obtain ⟨o1, o2, o3⟩ := hok
    rw [List.foldl_cons, List.foldl_cons]
    have e : vm_st v stk (q, ar) = vm_st v' stk (q, ar) := by
      simp only [vm_st]
      rcases o3 with ⟨rfl, _⟩ | ⟨rfl, ⟨jj, hj8, rfl⟩, _⟩ | ⟨rfl, _⟩ | ⟨q4, q11, _⟩
      · rfl
      · rw [vb_nat (by omega), hv jj hj8]
      · rfl
      · rw [if_neg (by omega), if_neg (by omega), if_neg (by omega), if_neg (by omega), if_neg (by omega)]
    rw [e]
    rcases o3 with ⟨_, _, _, o⟩ | ⟨_, _, _, _, o⟩ | ⟨_, _, o⟩ | ⟨_, _, _, o⟩
    · exact ih _ _ _ o
    · exact ih _ _ _ o
    · exact ih _ _ _ o
    · exact ih _ _ _ o
theorem vm_RD.cg {co : Nat → Int32} {a : Nat} {f : (Nat → Int32) → Int32} (h : vm_RD co a f) : vb_cg f := by
  obtain ⟨c, hok, hf⟩ := h
  intro v v' hv
  have h1 := hf v
  rw [vm_fold_cg hv c a 0 [] hok, hf v'] at h1
  exact (List.cons.inj h1).1.symm
theorem vl_sym (h : vl_inv ℓ) {a b : Nat} (ha : a < vb_n ℓ) (hb : b < vb_n ℓ) : vb_has (vb_nb ℓ a) b = vb_has (vb_nb ℓ b) a := (h a b ha hb).1
/-- neighbours lie below n -/
def vl_bel (ℓ : vb_L) : Prop := ∀ v, v < vb_n ℓ → vb_below (vb_n ℓ) (vb_nb ℓ v)
theorem vb_has_below {n v : Nat} {s : Int32} (h : vb_below n s) (hv : n ≤ v) : vb_has s v = false := by
  cases e : vb_has s v with
  | false => rfl
  | true => have := h v e; omega
theorem vm_near0 (hn : vb_n ℓ ≤ 10) (hi : vl_inv ℓ) (hb : vl_bel ℓ) (hsj : vx_dj (vx_s x)) {sd fr to : Nat} (hs : sd < 2) (hfr : fr < vb_n ℓ) (hto : to < vb_n ℓ) :
    vb_cnt (vb_n ℓ) (fun v => decide (v ≠ fr) && vb_has (vb_nb ℓ v) to && decide (vx_in (vx_s x) v = sd)) = vb_cnt 10 (vb_has (vb_nb ℓ to &&& vx_s x sd &&& ~~~ vb_bit fr)) := by
  rw [vb_cnt_up (n := vb_n ℓ) (m := 10) (p := vb_has (vb_nb ℓ to &&& vx_s x sd &&& ~~~ vb_bit fr)) hn (fun v hv => vb_has_below (vb_below_and (vb_below_and (hb to hto))) hv)]
  refine vb_cnt_congr (fun v hv => ?_)
  rw [vx_in_dec hsj hs, vb_has_and, vb_has_and, vb_has_not _ (by omega), vb_has_bit (by omega), vl_sym hi hv hto]
  by_cases e : v = fr
  · rw [decide_eq_false (not_not_intro e), decide_eq_true e]; simp
  · rw [decide_eq_true e, decide_eq_false e]; simp
theorem vm_near1 (hn : vb_n ℓ ≤ 10) (hi : vl_inv ℓ) (hb : vl_bel ℓ) (hsj : vx_dj (vx_s x)) {sd fr to : Nat} (hs : sd < 2) (hsd : vx_in (vx_s x) fr = 1 - sd) (hto : to < vb_n ℓ) :
    vb_cnt (vb_n ℓ) (fun v => decide (v ≠ fr) && vb_has (vb_nb ℓ v) to && decide (vx_in (vx_s x) v = sd)) = vb_cnt 10 (vb_has (vb_nb ℓ to &&& vx_s x sd)) := by
  rw [vb_cnt_up (n := vb_n ℓ) (m := 10) (p := vb_has (vb_nb ℓ to &&& vx_s x sd)) hn (fun v hv => vb_has_below (vb_below_and (hb to hto)) hv)]
  refine vb_cnt_congr (fun v hv => ?_)
  rw [vx_in_dec hsj hs, vb_has_and, vl_sym hi hv hto]
  by_cases e : v = fr
  · have : vb_has (vx_s x sd) v = false := by
      rw [← vx_in_dec hsj hs, e, hsd]; exact decide_eq_false (by omega)
    rw [this]; simp
  · rw [decide_eq_true e]; simp
theorem m_tells {sd fr to : Nat} (hM : vm_isM P S) (dM : vm_LD ℓ I) (hR : vm_row ℓ (I 76) b x t) (hb : b + 46 ≤ 276) (hli : vl_inv ℓ) (hlb : vl_bel ℓ) (hsj : vx_dj (vx_s x)) (hfj : vx_dj (vx_f x)) (hd : 1 ≤ d) (hfr : fr < vb_n ℓ) (hto : to < vb_n ℓ) (hs : sd < 2) (hsd : vx_in (vx_s x) fr = sd) : mm_C G d 179 [.ref 60, .int (vb_i b), .int (vb_i fr), .int (vb_i to)] (I, P, J, S, nc, ns) (vb_R none (fun I' => (∀ j, j < 8 → I' 78 j = vb_val ℓ (vx_s x sd) (vx_s x (1 - sd)) (vx_f x sd) fr to (vb_i (vx_e x)) j) ∧ vb_fr (fun a => a = 78) I I') P J S nc ns) := by
  have hn := vm_10 dM
  have he := vm_e2 hR
  have hin := vx_in2 (vx_s x) to
  have hin2 := vx_in2 (vx_f x) to
  show mm_W _ _ 179 (mm_blk 179 0) [.ref 60, .int (vb_i b), .int (vb_i fr), .int (vb_i to), .null] [] _ _
  refine mm_w1 rfl ?_
  refine mm_wgr (vM_S60 hM) (by decide) (by decide) (vM_P60_38 hM) (vM_a76 hM) ?_
  refine mm_w1 rfl ?_
  refine mm_wv (vb_i 0) rfl (by decide) ?_
  refine mm_nadd ?_
  refine mm_w1 rfl ?_
  refine mm_nadd ?_
  refine mm_wiav (vb_i sd) (vM_a76 hM) (vM_S76 hM) (by decide) (by omega) (by rw [vm_rs hR hfr, hsd]) ?_
  refine mm_w1 (ls' := [_, _, _, _, _]) rfl ?_
  refine mm_w1 rfl ?_
  refine mm_wgr (vM_S60 hM) (by decide) (by decide) (vM_P60_41 hM) (vM_a78 hM) ?_
  refine mm_wv (vb_i 0) rfl (by decide) ?_
  refine mm_w1 rfl ?_
  refine mm_w1 rfl ?_
  refine mm_w1 rfl ?_
  refine mm_w1 rfl ?_
  refine mm_w1 rfl ?_
  refine mm_cvp (vb_cv (vM_S60 hM) rfl rfl rfl rfl) (by decide) (by omega) (m_near hM dM hR (by omega) (by omega) (by omega) (by omega)) ?_
  refine mm_wisN (vM_S78 hM) (by decide) (by omega) ?_
  intro I1 hI1
  have hR1 : vm_row ℓ (I1 76) b x t := by rw [hI1, vb_up3 _ _ (by decide)]; exact hR
  have dM1 : vm_LD ℓ I1 := dM.k2 (fun s _ _ => by rw [hI1, vb_up3 _ _ (by decide)]) (fun a h1 h2 => by rw [hI1, vb_up3 _ _ (by omega)])
  refine mm_w1 rfl ?_
  refine mm_wgr (vM_S60 hM) (by decide) (by decide) (vM_P60_41 hM) (vM_a78 hM) ?_
  refine mm_wv (vb_i 1) rfl (by decide) ?_
  refine mm_w1 rfl ?_
  refine mm_w1 rfl ?_
  refine mm_wv (vb_i 1) rfl (by decide) ?_
  refine mm_w1 rfl ?_
  refine mm_nsub (by omega) ?_
  refine mm_w1 rfl ?_
  refine mm_w1 rfl ?_
  refine mm_cvp (vb_cv (vM_S60 hM) rfl rfl rfl rfl) (by decide) (by omega) (m_near hM dM1 hR1 (by omega) (by omega) (by omega) (by omega)) ?_
  refine mm_wisN (vM_S78 hM) (by decide) (by omega) ?_
  intro I2 hI2
  have hR2 : vm_row ℓ (I2 76) b x t := by rw [hI2, vb_up3 _ _ (by decide)]; exact hR1
  have dM2 : vm_LD ℓ I2 := dM1.k2 (fun s _ _ => by rw [hI2, vb_up3 _ _ (by decide)]) (fun a h1 h2 => by rw [hI2, vb_up3 _ _ (by omega)])
  refine mm_w1 rfl ?_
  refine mm_wgr (vM_S60 hM) (by decide) (by decide) (vM_P60_41 hM) (vM_a78 hM) ?_
  refine mm_wv (vb_i 2) rfl (by decide) ?_
  refine mm_w1 rfl ?_
  refine mm_wgr (vM_S60 hM) (by decide) (by decide) (vM_P60_6 hM) (vM_a62 hM) ?_
  refine mm_w1 rfl ?_
  refine mm_wiav _ (vM_a62 hM) (vM_S62 hM) (by decide) (by omega) (vm_fo dM2 (by omega)) ?_
  refine mm_wisN (vM_S78 hM) (by decide) (by omega) ?_
  intro I3 hI3
  have hR3 : vm_row ℓ (I3 76) b x t := by rw [hI3, vb_up3 _ _ (by decide)]; exact hR2
  have dM3 : vm_LD ℓ I3 := dM2.k2 (fun s _ _ => by rw [hI3, vb_up3 _ _ (by decide)]) (fun a h1 h2 => by rw [hI3, vb_up3 _ _ (by omega)])
  refine mm_w1 rfl ?_
  refine mm_wgr (vM_S60 hM) (by decide) (by decide) (vM_P60_41 hM) (vM_a78 hM) ?_
  refine mm_wv (vb_i 3) rfl (by decide) ?_
  refine mm_w1 rfl ?_
  refine mm_wgr (vM_S60 hM) (by decide) (by decide) (vM_P60_5 hM) (vM_a61 hM) ?_
  refine mm_w1 rfl ?_
  refine mm_wiav _ (vM_a61 hM) (vM_S61 hM) (by decide) (by omega) (vm_wo dM3 (by omega)) ?_
  refine mm_wisN (vM_S78 hM) (by decide) (by omega) ?_
  intro I4 hI4
  have hR4 : vm_row ℓ (I4 76) b x t := by rw [hI4, vb_up3 _ _ (by decide)]; exact hR3
  have dM4 : vm_LD ℓ I4 := dM3.k2 (fun s _ _ => by rw [hI4, vb_up3 _ _ (by decide)]) (fun a h1 h2 => by rw [hI4, vb_up3 _ _ (by omega)])
  refine mm_w1 rfl ?_
  refine mm_wgr (vM_S60 hM) (by decide) (by decide) (vM_P60_41 hM) (vM_a78 hM) ?_
  refine mm_wv (vb_i 4) rfl (by decide) ?_
  refine mm_w1 rfl ?_
  refine mm_wgr (vM_S60 hM) (by decide) (by decide) (vM_P60_5 hM) (vM_a61 hM) ?_
  refine mm_w1 rfl ?_
  refine mm_wiav _ (vM_a61 hM) (vM_S61 hM) (by decide) (by omega) (vm_wo dM4 (by omega)) ?_
  refine mm_wisN (vM_S78 hM) (by decide) (by omega) ?_
  intro I5 hI5
  have hR5 : vm_row ℓ (I5 76) b x t := by rw [hI5, vb_up3 _ _ (by decide)]; exact hR4
  have dM5 : vm_LD ℓ I5 := dM4.k2 (fun s _ _ => by rw [hI5, vb_up3 _ _ (by decide)]) (fun a h1 h2 => by rw [hI5, vb_up3 _ _ (by omega)])
  refine mm_w1 rfl ?_
  refine mm_wgr (vM_S60 hM) (by decide) (by decide) (vM_P60_41 hM) (vM_a78 hM) ?_
  refine mm_wv (vb_i 5) rfl (by decide) ?_
  refine mm_w1 rfl ?_
  refine mm_wgr (vM_S60 hM) (by decide) (by decide) (vM_P60_38 hM) (vM_a76 hM) ?_
  refine mm_w1 rfl ?_
  refine mm_wv (vb_i 0) rfl (by decide) ?_
  refine mm_nadd ?_
  refine mm_w1 rfl ?_
  refine mm_nadd ?_
  refine mm_wiav _ (vM_a76 hM) (vM_S76 hM) (by decide) (by omega) (vm_rs hR5 hto) ?_
  refine mm_wv (vb_i 1) rfl (by decide) ?_
  refine mm_w1 rfl ?_
  refine mm_nsub (by omega) ?_
  refine mm_nicne (by omega) (by omega) ?_ ?_
  · intro h99
    refine mm_wv (vb_i 0) rfl (by decide) ?_
    refine mm_wisN (vM_S78 hM) (by decide) (by omega) ?_
    intro I6 hI6
    have hR6 : vm_row ℓ (I6 76) b x t := by rw [hI6, vb_up3 _ _ (by decide)]; exact hR5
    have dM6 : vm_LD ℓ I6 := dM5.k2 (fun s _ _ => by rw [hI6, vb_up3 _ _ (by decide)]) (fun a h1 h2 => by rw [hI6, vb_up3 _ _ (by omega)])
    refine mm_w1 rfl ?_
    refine mm_wgr (vM_S60 hM) (by decide) (by decide) (vM_P60_41 hM) (vM_a78 hM) ?_
    refine mm_wv (vb_i 6) rfl (by decide) ?_
    refine mm_w1 rfl ?_
    refine mm_wgr (vM_S60 hM) (by decide) (by decide) (vM_P60_38 hM) (vM_a76 hM) ?_
    refine mm_w1 rfl ?_
    refine mm_wv (vb_i 10) rfl (by decide) ?_
    refine mm_nadd ?_
    refine mm_w1 rfl ?_
    refine mm_nadd ?_
    refine mm_wiav _ (vM_a76 hM) (vM_S76 hM) (by decide) (by omega) (vm_rf hR6 hto) ?_
    refine mm_w1 rfl ?_
    refine mm_niceq (by omega) (by omega) ?_ ?_
    · intro h127
      refine mm_wv (vb_i 0) rfl (by decide) ?_
      refine mm_wisN (vM_S78 hM) (by decide) (by omega) ?_
      intro I7 hI7
      have hR7 : vm_row ℓ (I7 76) b x t := by rw [hI7, vb_up3 _ _ (by decide)]; exact hR6
      have dM7 : vm_LD ℓ I7 := dM6.k2 (fun s _ _ => by rw [hI7, vb_up3 _ _ (by decide)]) (fun a h1 h2 => by rw [hI7, vb_up3 _ _ (by omega)])
      refine mm_w1 rfl ?_
      refine mm_wgr (vM_S60 hM) (by decide) (by decide) (vM_P60_41 hM) (vM_a78 hM) ?_
      refine mm_wv (vb_i 7) rfl (by decide) ?_
      refine mm_w1 rfl ?_
      refine mm_wgr (vM_S60 hM) (by decide) (by decide) (vM_P60_38 hM) (vM_a76 hM) ?_
      refine mm_w1 rfl ?_
      refine mm_wv (vb_i 42) rfl (by decide) ?_
      refine mm_nadd ?_
      refine mm_wiav _ (vM_a76 hM) (vM_S76 hM) (by decide) (by omega) (vm_re hR7) ?_
      refine mm_wisN (vM_S78 hM) (by decide) (by omega) ?_
      intro I8 hI8
      have hR8 : vm_row ℓ (I8 76) b x t := by rw [hI8, vb_up3 _ _ (by decide)]; exact hR7
      have dM8 : vm_LD ℓ I8 := dM7.k2 (fun s _ _ => by rw [hI8, vb_up3 _ _ (by decide)]) (fun a h1 h2 => by rw [hI8, vb_up3 _ _ (by omega)])
      refine mm_wr rfl rfl rfl ?_
      refine ⟨_, ⟨?_, ?_⟩, rfl⟩
      · intro j hj
        have hj8 : j = 0 ∨ j = 1 ∨ j = 2 ∨ j = 3 ∨ j = 4 ∨ j = 5 ∨ j = 6 ∨ j = 7 := by omega
        rcases hj8 with rfl | rfl | rfl | rfl | rfl | rfl | rfl | rfl
        · rw [hI8, vb_up2 _ _ (by decide), hI7, vb_up2 _ _ (by decide), hI6, vb_up2 _ _ (by decide), hI5, vb_up2 _ _ (by decide), hI4, vb_up2 _ _ (by decide), hI3, vb_up2 _ _ (by decide), hI2, vb_up2 _ _ (by decide), hI1, vb_up1]
          rw [vm_near0 hn hli hlb hsj hs hfr hto]; rfl
        · rw [hI8, vb_up2 _ _ (by decide), hI7, vb_up2 _ _ (by decide), hI6, vb_up2 _ _ (by decide), hI5, vb_up2 _ _ (by decide), hI4, vb_up2 _ _ (by decide), hI3, vb_up2 _ _ (by decide), hI2, vb_up1]
          rw [vm_near1 hn hli hlb hsj (by omega) (by omega) hto]; rfl
        · rw [hI8, vb_up2 _ _ (by decide), hI7, vb_up2 _ _ (by decide), hI6, vb_up2 _ _ (by decide), hI5, vb_up2 _ _ (by decide), hI4, vb_up2 _ _ (by decide), hI3, vb_up1]; rfl
        · rw [hI8, vb_up2 _ _ (by decide), hI7, vb_up2 _ _ (by decide), hI6, vb_up2 _ _ (by decide), hI5, vb_up2 _ _ (by decide), hI4, vb_up1]; rfl
        · rw [hI8, vb_up2 _ _ (by decide), hI7, vb_up2 _ _ (by decide), hI6, vb_up2 _ _ (by decide), hI5, vb_up1]; rfl
        · rw [hI8, vb_up2 _ _ (by decide), hI7, vb_up2 _ _ (by decide), hI6, vb_up1]
          show _ = vb_b (vb_has (vx_s x (1 - sd)) to)
          first
            | (rw [(vx_in_eq hsj (by omega)).mp h99]; rfl)
            | (rw [show vb_has (vx_s x (1 - sd)) to = false by rw [← vx_in_dec hsj (by omega)]; exact decide_eq_false h99]; rfl)
        · rw [hI8, vb_up2 _ _ (by decide), hI7, vb_up1]
          show _ = vb_i 1 - vb_b (vb_has (vx_f x sd) to)
          first
            | (rw [(vx_in_eq hfj (by omega)).mp h127]; rfl)
            | (rw [show vb_has (vx_f x sd) to = false by rw [← vx_in_dec hfj (by omega)]; exact decide_eq_false h127]; rfl)
        · rw [hI8, vb_up1]; rfl
      · rw [hI8, hI7, hI6, hI5, hI4, hI3, hI2, hI1]
        exact (((((((vb_fr.rf.up1).up1).up1).up1).up1).up1).up1).up1
    · intro h127
      refine mm_wv (vb_i 1) rfl (by decide) ?_
      refine mm_wgoto ?_
      refine mm_wisN (vM_S78 hM) (by decide) (by omega) ?_
      intro I7 hI7
      have hR7 : vm_row ℓ (I7 76) b x t := by rw [hI7, vb_up3 _ _ (by decide)]; exact hR6
      have dM7 : vm_LD ℓ I7 := dM6.k2 (fun s _ _ => by rw [hI7, vb_up3 _ _ (by decide)]) (fun a h1 h2 => by rw [hI7, vb_up3 _ _ (by omega)])
      refine mm_w1 rfl ?_
      refine mm_wgr (vM_S60 hM) (by decide) (by decide) (vM_P60_41 hM) (vM_a78 hM) ?_
      refine mm_wv (vb_i 7) rfl (by decide) ?_
      refine mm_w1 rfl ?_
      refine mm_wgr (vM_S60 hM) (by decide) (by decide) (vM_P60_38 hM) (vM_a76 hM) ?_
      refine mm_w1 rfl ?_
      refine mm_wv (vb_i 42) rfl (by decide) ?_
      refine mm_nadd ?_
      refine mm_wiav _ (vM_a76 hM) (vM_S76 hM) (by decide) (by omega) (vm_re hR7) ?_
      refine mm_wisN (vM_S78 hM) (by decide) (by omega) ?_
      intro I8 hI8
      have hR8 : vm_row ℓ (I8 76) b x t := by rw [hI8, vb_up3 _ _ (by decide)]; exact hR7
      have dM8 : vm_LD ℓ I8 := dM7.k2 (fun s _ _ => by rw [hI8, vb_up3 _ _ (by decide)]) (fun a h1 h2 => by rw [hI8, vb_up3 _ _ (by omega)])
      refine mm_wr rfl rfl rfl ?_
      refine ⟨_, ⟨?_, ?_⟩, rfl⟩
      · intro j hj
        have hj8 : j = 0 ∨ j = 1 ∨ j = 2 ∨ j = 3 ∨ j = 4 ∨ j = 5 ∨ j = 6 ∨ j = 7 := by omega
        rcases hj8 with rfl | rfl | rfl | rfl | rfl | rfl | rfl | rfl
        · rw [hI8, vb_up2 _ _ (by decide), hI7, vb_up2 _ _ (by decide), hI6, vb_up2 _ _ (by decide), hI5, vb_up2 _ _ (by decide), hI4, vb_up2 _ _ (by decide), hI3, vb_up2 _ _ (by decide), hI2, vb_up2 _ _ (by decide), hI1, vb_up1]
          rw [vm_near0 hn hli hlb hsj hs hfr hto]; rfl
        · rw [hI8, vb_up2 _ _ (by decide), hI7, vb_up2 _ _ (by decide), hI6, vb_up2 _ _ (by decide), hI5, vb_up2 _ _ (by decide), hI4, vb_up2 _ _ (by decide), hI3, vb_up2 _ _ (by decide), hI2, vb_up1]
          rw [vm_near1 hn hli hlb hsj (by omega) (by omega) hto]; rfl
        · rw [hI8, vb_up2 _ _ (by decide), hI7, vb_up2 _ _ (by decide), hI6, vb_up2 _ _ (by decide), hI5, vb_up2 _ _ (by decide), hI4, vb_up2 _ _ (by decide), hI3, vb_up1]; rfl
        · rw [hI8, vb_up2 _ _ (by decide), hI7, vb_up2 _ _ (by decide), hI6, vb_up2 _ _ (by decide), hI5, vb_up2 _ _ (by decide), hI4, vb_up1]; rfl
        · rw [hI8, vb_up2 _ _ (by decide), hI7, vb_up2 _ _ (by decide), hI6, vb_up2 _ _ (by decide), hI5, vb_up1]; rfl
        · rw [hI8, vb_up2 _ _ (by decide), hI7, vb_up2 _ _ (by decide), hI6, vb_up1]
          show _ = vb_b (vb_has (vx_s x (1 - sd)) to)
          first
            | (rw [(vx_in_eq hsj (by omega)).mp h99]; rfl)
            | (rw [show vb_has (vx_s x (1 - sd)) to = false by rw [← vx_in_dec hsj (by omega)]; exact decide_eq_false h99]; rfl)
        · rw [hI8, vb_up2 _ _ (by decide), hI7, vb_up1]
          show _ = vb_i 1 - vb_b (vb_has (vx_f x sd) to)
          first
            | (rw [(vx_in_eq hfj (by omega)).mp h127]; rfl)
            | (rw [show vb_has (vx_f x sd) to = false by rw [← vx_in_dec hfj (by omega)]; exact decide_eq_false h127]; rfl)
        · rw [hI8, vb_up1]; rfl
      · rw [hI8, hI7, hI6, hI5, hI4, hI3, hI2, hI1]
        exact (((((((vb_fr.rf.up1).up1).up1).up1).up1).up1).up1).up1
  · intro h99
    refine mm_wv (vb_i 1) rfl (by decide) ?_
    refine mm_wgoto ?_
    refine mm_wisN (vM_S78 hM) (by decide) (by omega) ?_
    intro I6 hI6
    have hR6 : vm_row ℓ (I6 76) b x t := by rw [hI6, vb_up3 _ _ (by decide)]; exact hR5
    have dM6 : vm_LD ℓ I6 := dM5.k2 (fun s _ _ => by rw [hI6, vb_up3 _ _ (by decide)]) (fun a h1 h2 => by rw [hI6, vb_up3 _ _ (by omega)])
    refine mm_w1 rfl ?_
    refine mm_wgr (vM_S60 hM) (by decide) (by decide) (vM_P60_41 hM) (vM_a78 hM) ?_
    refine mm_wv (vb_i 6) rfl (by decide) ?_
    refine mm_w1 rfl ?_
    refine mm_wgr (vM_S60 hM) (by decide) (by decide) (vM_P60_38 hM) (vM_a76 hM) ?_
    refine mm_w1 rfl ?_
    refine mm_wv (vb_i 10) rfl (by decide) ?_
    refine mm_nadd ?_
    refine mm_w1 rfl ?_
    refine mm_nadd ?_
    refine mm_wiav _ (vM_a76 hM) (vM_S76 hM) (by decide) (by omega) (vm_rf hR6 hto) ?_
    refine mm_w1 rfl ?_
    refine mm_niceq (by omega) (by omega) ?_ ?_
    · intro h127
      refine mm_wv (vb_i 0) rfl (by decide) ?_
      refine mm_wisN (vM_S78 hM) (by decide) (by omega) ?_
      intro I7 hI7
      have hR7 : vm_row ℓ (I7 76) b x t := by rw [hI7, vb_up3 _ _ (by decide)]; exact hR6
      have dM7 : vm_LD ℓ I7 := dM6.k2 (fun s _ _ => by rw [hI7, vb_up3 _ _ (by decide)]) (fun a h1 h2 => by rw [hI7, vb_up3 _ _ (by omega)])
      refine mm_w1 rfl ?_
      refine mm_wgr (vM_S60 hM) (by decide) (by decide) (vM_P60_41 hM) (vM_a78 hM) ?_
      refine mm_wv (vb_i 7) rfl (by decide) ?_
      refine mm_w1 rfl ?_
      refine mm_wgr (vM_S60 hM) (by decide) (by decide) (vM_P60_38 hM) (vM_a76 hM) ?_
      refine mm_w1 rfl ?_
      refine mm_wv (vb_i 42) rfl (by decide) ?_
      refine mm_nadd ?_
      refine mm_wiav _ (vM_a76 hM) (vM_S76 hM) (by decide) (by omega) (vm_re hR7) ?_
      refine mm_wisN (vM_S78 hM) (by decide) (by omega) ?_
      intro I8 hI8
      have hR8 : vm_row ℓ (I8 76) b x t := by rw [hI8, vb_up3 _ _ (by decide)]; exact hR7
      have dM8 : vm_LD ℓ I8 := dM7.k2 (fun s _ _ => by rw [hI8, vb_up3 _ _ (by decide)]) (fun a h1 h2 => by rw [hI8, vb_up3 _ _ (by omega)])
      refine mm_wr rfl rfl rfl ?_
      refine ⟨_, ⟨?_, ?_⟩, rfl⟩
      · intro j hj
        have hj8 : j = 0 ∨ j = 1 ∨ j = 2 ∨ j = 3 ∨ j = 4 ∨ j = 5 ∨ j = 6 ∨ j = 7 := by omega
        rcases hj8 with rfl | rfl | rfl | rfl | rfl | rfl | rfl | rfl
        · rw [hI8, vb_up2 _ _ (by decide), hI7, vb_up2 _ _ (by decide), hI6, vb_up2 _ _ (by decide), hI5, vb_up2 _ _ (by decide), hI4, vb_up2 _ _ (by decide), hI3, vb_up2 _ _ (by decide), hI2, vb_up2 _ _ (by decide), hI1, vb_up1]
          rw [vm_near0 hn hli hlb hsj hs hfr hto]; rfl
        · rw [hI8, vb_up2 _ _ (by decide), hI7, vb_up2 _ _ (by decide), hI6, vb_up2 _ _ (by decide), hI5, vb_up2 _ _ (by decide), hI4, vb_up2 _ _ (by decide), hI3, vb_up2 _ _ (by decide), hI2, vb_up1]
          rw [vm_near1 hn hli hlb hsj (by omega) (by omega) hto]; rfl
        · rw [hI8, vb_up2 _ _ (by decide), hI7, vb_up2 _ _ (by decide), hI6, vb_up2 _ _ (by decide), hI5, vb_up2 _ _ (by decide), hI4, vb_up2 _ _ (by decide), hI3, vb_up1]; rfl
        · rw [hI8, vb_up2 _ _ (by decide), hI7, vb_up2 _ _ (by decide), hI6, vb_up2 _ _ (by decide), hI5, vb_up2 _ _ (by decide), hI4, vb_up1]; rfl
        · rw [hI8, vb_up2 _ _ (by decide), hI7, vb_up2 _ _ (by decide), hI6, vb_up2 _ _ (by decide), hI5, vb_up1]; rfl
        · rw [hI8, vb_up2 _ _ (by decide), hI7, vb_up2 _ _ (by decide), hI6, vb_up1]
          show _ = vb_b (vb_has (vx_s x (1 - sd)) to)
          first
            | (rw [(vx_in_eq hsj (by omega)).mp h99]; rfl)
            | (rw [show vb_has (vx_s x (1 - sd)) to = false by rw [← vx_in_dec hsj (by omega)]; exact decide_eq_false h99]; rfl)
        · rw [hI8, vb_up2 _ _ (by decide), hI7, vb_up1]
          show _ = vb_i 1 - vb_b (vb_has (vx_f x sd) to)
          first
            | (rw [(vx_in_eq hfj (by omega)).mp h127]; rfl)
            | (rw [show vb_has (vx_f x sd) to = false by rw [← vx_in_dec hfj (by omega)]; exact decide_eq_false h127]; rfl)
        · rw [hI8, vb_up1]; rfl
      · rw [hI8, hI7, hI6, hI5, hI4, hI3, hI2, hI1]
        exact (((((((vb_fr.rf.up1).up1).up1).up1).up1).up1).up1).up1
    · intro h127
      refine mm_wv (vb_i 1) rfl (by decide) ?_
      refine mm_wgoto ?_
      refine mm_wisN (vM_S78 hM) (by decide) (by omega) ?_
      intro I7 hI7
      have hR7 : vm_row ℓ (I7 76) b x t := by rw [hI7, vb_up3 _ _ (by decide)]; exact hR6
      have dM7 : vm_LD ℓ I7 := dM6.k2 (fun s _ _ => by rw [hI7, vb_up3 _ _ (by decide)]) (fun a h1 h2 => by rw [hI7, vb_up3 _ _ (by omega)])
      refine mm_w1 rfl ?_
      refine mm_wgr (vM_S60 hM) (by decide) (by decide) (vM_P60_41 hM) (vM_a78 hM) ?_
      refine mm_wv (vb_i 7) rfl (by decide) ?_
      refine mm_w1 rfl ?_
      refine mm_wgr (vM_S60 hM) (by decide) (by decide) (vM_P60_38 hM) (vM_a76 hM) ?_
      refine mm_w1 rfl ?_
      refine mm_wv (vb_i 42) rfl (by decide) ?_
      refine mm_nadd ?_
      refine mm_wiav _ (vM_a76 hM) (vM_S76 hM) (by decide) (by omega) (vm_re hR7) ?_
      refine mm_wisN (vM_S78 hM) (by decide) (by omega) ?_
      intro I8 hI8
      have hR8 : vm_row ℓ (I8 76) b x t := by rw [hI8, vb_up3 _ _ (by decide)]; exact hR7
      have dM8 : vm_LD ℓ I8 := dM7.k2 (fun s _ _ => by rw [hI8, vb_up3 _ _ (by decide)]) (fun a h1 h2 => by rw [hI8, vb_up3 _ _ (by omega)])
      refine mm_wr rfl rfl rfl ?_
      refine ⟨_, ⟨?_, ?_⟩, rfl⟩
      · intro j hj
        have hj8 : j = 0 ∨ j = 1 ∨ j = 2 ∨ j = 3 ∨ j = 4 ∨ j = 5 ∨ j = 6 ∨ j = 7 := by omega
        rcases hj8 with rfl | rfl | rfl | rfl | rfl | rfl | rfl | rfl
        · rw [hI8, vb_up2 _ _ (by decide), hI7, vb_up2 _ _ (by decide), hI6, vb_up2 _ _ (by decide), hI5, vb_up2 _ _ (by decide), hI4, vb_up2 _ _ (by decide), hI3, vb_up2 _ _ (by decide), hI2, vb_up2 _ _ (by decide), hI1, vb_up1]
          rw [vm_near0 hn hli hlb hsj hs hfr hto]; rfl
        · rw [hI8, vb_up2 _ _ (by decide), hI7, vb_up2 _ _ (by decide), hI6, vb_up2 _ _ (by decide), hI5, vb_up2 _ _ (by decide), hI4, vb_up2 _ _ (by decide), hI3, vb_up2 _ _ (by decide), hI2, vb_up1]
          rw [vm_near1 hn hli hlb hsj (by omega) (by omega) hto]; rfl
        · rw [hI8, vb_up2 _ _ (by decide), hI7, vb_up2 _ _ (by decide), hI6, vb_up2 _ _ (by decide), hI5, vb_up2 _ _ (by decide), hI4, vb_up2 _ _ (by decide), hI3, vb_up1]; rfl
        · rw [hI8, vb_up2 _ _ (by decide), hI7, vb_up2 _ _ (by decide), hI6, vb_up2 _ _ (by decide), hI5, vb_up2 _ _ (by decide), hI4, vb_up1]; rfl
        · rw [hI8, vb_up2 _ _ (by decide), hI7, vb_up2 _ _ (by decide), hI6, vb_up2 _ _ (by decide), hI5, vb_up1]; rfl
        · rw [hI8, vb_up2 _ _ (by decide), hI7, vb_up2 _ _ (by decide), hI6, vb_up1]
          show _ = vb_b (vb_has (vx_s x (1 - sd)) to)
          first
            | (rw [(vx_in_eq hsj (by omega)).mp h99]; rfl)
            | (rw [show vb_has (vx_s x (1 - sd)) to = false by rw [← vx_in_dec hsj (by omega)]; exact decide_eq_false h99]; rfl)
        · rw [hI8, vb_up2 _ _ (by decide), hI7, vb_up1]
          show _ = vb_i 1 - vb_b (vb_has (vx_f x sd) to)
          first
            | (rw [(vx_in_eq hfj (by omega)).mp h127]; rfl)
            | (rw [show vb_has (vx_f x sd) to = false by rw [← vx_in_dec hfj (by omega)]; exact decide_eq_false h127]; rfl)
        · rw [hI8, vb_up1]; rfl
      · rw [hI8, hI7, hI6, hI5, hI4, hI3, hI2, hI1]
        exact (((((((vb_fr.rf.up1).up1).up1).up1).up1).up1).up1).up1
theorem m_mayGo {fr to : Nat} (hM : vm_isM P S) (dM : vm_LD ℓ I) (hR : vm_row ℓ (I 76) b x t) (hb : b + 46 ≤ 276) (hli : vl_inv ℓ) (hlb : vl_bel ℓ) (hsj : vx_dj (vx_s x)) (hfj : vx_dj (vx_f x)) (hst : ∀ s, s < 2 → vb_has (vx_s x (1 - s)) to = true → vb_has (vx_f x s) to = false) (hd : 2 ≤ d) (hfr : fr < vb_n ℓ) (hto : to < vb_n ℓ) : mm_C G d 180 [.ref 60, .int (vb_i b), .int (vb_i fr), .int (vb_i to)] (I, P, J, S, nc, ns) (vb_R (some (.int (vb_b (vb_has (q_tgt ℓ x fr) to)))) (fun I' => vb_fr vm_s8 I I') P J S nc ns) := by
  have hn := vm_10 dM
  have hin := vx_in2 (vx_s x) fr
  have hin2 := vx_in2 (vx_s x) to
  have hlaw : ¬ vx_in (vx_s x) fr = 2 → vb_has (q_tgt ℓ x fr) to = (vb_has (vb_nb ℓ fr) to && ((!vb_has (vx_s x (vx_in (vx_s x) fr)) to && !vb_has (vx_s x (1 - vx_in (vx_s x) fr)) to) || (vb_has (vx_s x (1 - vx_in (vx_s x) fr)) to && vb_take ℓ (vx_s x (vx_in (vx_s x) fr)) (vx_s x (1 - vx_in (vx_s x) fr)) fr to (vb_i (vx_e x))))) := by
    intro h2
    rw [q_tgt, if_neg h2, vb_law, vb_has_set _ (by omega), decide_eq_true hto, Bool.true_and]
  have hown : ∀ s, s < 2 → vb_has (vx_s x s) to = decide (vx_in (vx_s x) to = s) := fun s hs => (vx_in_dec hsj hs).symm
  show mm_W _ _ 180 (mm_blk 180 0) [.ref 60, .int (vb_i b), .int (vb_i fr), .int (vb_i to), .null, .null] [] _ _
  refine mm_w1 rfl ?_
  refine mm_wgr (vM_S60 hM) (by decide) (by decide) (vM_P60_38 hM) (vM_a76 hM) ?_
  refine mm_w1 rfl ?_
  refine mm_wv (vb_i 0) rfl (by decide) ?_
  refine mm_nadd ?_
  refine mm_w1 rfl ?_
  refine mm_nadd ?_
  refine mm_wiav _ (vM_a76 hM) (vM_S76 hM) (by decide) (by omega) (vm_rs hR hfr) ?_
  refine mm_w1 (ls' := [_, _, _, _, _, _]) rfl ?_
  refine mm_w1 rfl ?_
  refine mm_wgr (vM_S60 hM) (by decide) (by decide) (vM_P60_38 hM) (vM_a76 hM) ?_
  refine mm_w1 rfl ?_
  refine mm_wv (vb_i 0) rfl (by decide) ?_
  refine mm_nadd ?_
  refine mm_w1 rfl ?_
  refine mm_nadd ?_
  refine mm_wiav _ (vM_a76 hM) (vM_S76 hM) (by decide) (by omega) (vm_rs hR hto) ?_
  refine mm_w1 (ls' := [_, _, _, _, _, _]) rfl ?_
  refine mm_w1 rfl ?_
  refine mm_wv (vb_i 2) rfl (by decide) ?_
  refine mm_niceq (by omega) (by omega) ?_ ?_
  · intro h27
    refine mm_wv (vb_i 0) rfl (by decide) ?_
    refine mm_wr rfl rfl rfl ?_
    refine ⟨_, vb_fr.rf, ?_⟩
    first
      | (rw [q_tgt, if_pos h27, vb_has_0]; rfl)
      | (rw [hlaw h27, h41]; rfl)
      | (rw [hlaw h27, h41, hown _ (by omega), decide_eq_true h48, hown _ (by omega), decide_eq_false (by omega : ¬ vx_in (vx_s x) to = 1 - vx_in (vx_s x) fr)]; rfl)
  · intro h27
    refine mm_w1 rfl ?_
    refine mm_wgr (vM_S60 hM) (by decide) (by decide) (vM_P60_9 hM) (vM_a65 hM) ?_
    refine mm_wv (vb_i 10) rfl (by decide) ?_
    refine mm_w1 rfl ?_
    refine mm_nmul ?_
    refine mm_w1 rfl ?_
    refine mm_nadd ?_
    refine mm_wzav _ (vM_S65 hM) (by decide) (by omega) (vm_rd dM (by omega) (by omega)) ?_
    refine mm_bifeq ?_ ?_
    · intro h41
      refine mm_wv (vb_i 0) rfl (by decide) ?_
      refine mm_wr rfl rfl rfl ?_
      refine ⟨_, vb_fr.rf, ?_⟩
      first
        | (rw [q_tgt, if_pos h27, vb_has_0]; rfl)
        | (rw [hlaw h27, h41]; rfl)
        | (rw [hlaw h27, h41, hown _ (by omega), decide_eq_true h48, hown _ (by omega), decide_eq_false (by omega : ¬ vx_in (vx_s x) to = 1 - vx_in (vx_s x) fr)]; rfl)
    · intro h41
      refine mm_w1 rfl ?_
      refine mm_w1 rfl ?_
      refine mm_nicne (by omega) (by omega) ?_ ?_
      · intro h48
        refine mm_w1 rfl ?_
        refine mm_wv (vb_i 2) rfl (by decide) ?_
        refine mm_nicne (by omega) (by omega) ?_ ?_
        · intro h56
          refine mm_w1 rfl ?_
          refine mm_w1 rfl ?_
          refine mm_w1 rfl ?_
          refine mm_w1 rfl ?_
          have hs2 : vx_in (vx_s x) fr < 2 := by omega
          have hto1 : vx_in (vx_s x) to = 1 - vx_in (vx_s x) fr := by omega
          have hfoe : vb_has (vx_s x (1 - vx_in (vx_s x) fr)) to = true := by rw [hown _ (by omega)]; exact decide_eq_true hto1
          have hnow : vb_has (vx_s x (vx_in (vx_s x) fr)) to = false := by rw [hown _ hs2]; exact decide_eq_false (by omega)
          have hres : vb_has (q_tgt ℓ x fr) to = vb_take ℓ (vx_s x (vx_in (vx_s x) fr)) (vx_s x (1 - vx_in (vx_s x) fr)) fr to (vb_i (vx_e x)) := by rw [hlaw h27, h41, hfoe, hnow]; simp
          have hvv : ∀ j, vb_val ℓ (vx_s x (vx_in (vx_s x) fr)) (vx_s x (1 - vx_in (vx_s x) fr)) (vx_f x (vx_in (vx_s x) fr)) fr to (vb_i (vx_e x)) j = vb_val ℓ (vx_s x (vx_in (vx_s x) fr)) (vx_s x (1 - vx_in (vx_s x) fr)) (vx_s x (vx_in (vx_s x) fr)) fr to (vb_i (vx_e x)) j := by
            intro j
            simp only [vb_val, hnow, hst _ hs2 hfoe]
          rw [hres]
          refine mm_cvn (vb_cv (vM_S60 hM) rfl rfl rfl rfl) (by decide) (by omega) (m_tells (sd := vx_in (vx_s x) fr) hM dM hR hb hli hlb hsj hfj (by omega) hfr hto hs2 rfl) ?_
          intro I1 hq1
          obtain ⟨hv1, hf1⟩ := hq1
          have hv2 : ∀ j, j < 8 → I1 78 j = vb_val ℓ (vx_s x (vx_in (vx_s x) fr)) (vx_s x (1 - vx_in (vx_s x) fr)) (vx_s x (vx_in (vx_s x) fr)) fr to (vb_i (vx_e x)) j := fun j hj => (hv1 j hj).trans (hvv j)
          have hF1 : vb_fr vm_s8 I I1 := hf1.mono (fun a h => Or.inl h)
          have dM1 := dM.fr hF1 (fun a h1 h2 h3 => by simp only [vm_s8] at h3; omega)
          cases hh : vb_ht ℓ with
          | false =>
            have h4 := vm_t0 dM1 hh
            rw [vb_take, hh, if_neg (by decide)]
            refine mm_w1 rfl ?_
            refine mm_wgiv (-1) (vM_S60 hM) (by decide) (by decide) h4 ?_
            refine mm_wv (-1) rfl (by decide) ?_
            refine mm_wicne ?_ ?_
            · intro h73
              exact absurd rfl h73
            · intro h73
              refine mm_w1 rfl ?_
              refine mm_wgr (vM_S60 hM) (by decide) (by decide) (vM_P60_41 hM) (vM_a78 hM) ?_
              refine mm_wv (vb_i 0) rfl (by decide) ?_
              refine mm_wiav _ (vM_a78 hM) (vM_S78 hM) (by decide) (by omega) (hv2 0 (by decide)) ?_
              refine mm_w1 rfl ?_
              refine mm_wgr (vM_S60 hM) (by decide) (by decide) (vM_P60_41 hM) (vM_a78 hM) ?_
              refine mm_wv (vb_i 1) rfl (by decide) ?_
              refine mm_wiav _ (vM_a78 hM) (vM_S78 hM) (by decide) (by omega) (hv2 1 (by decide)) ?_
              refine mm_w1 rfl ?_
              refine mm_wgr (vM_S60 hM) (by decide) (by decide) (vM_P60_41 hM) (vM_a78 hM) ?_
              refine mm_wv (vb_i 2) rfl (by decide) ?_
              refine mm_wiav _ (vM_a78 hM) (vM_S78 hM) (by decide) (by omega) (hv2 2 (by decide)) ?_
              refine mm_w1 rfl ?_
              refine mm_wv (vb_i 1) rfl (by decide) ?_
              refine mm_w1 rfl ?_
              refine mm_wicle ?_ ?_
              · intro h97
                refine mm_wv (vb_i 0) rfl (by decide) ?_
                refine mm_wgoto ?_
                refine mm_wr rfl rfl rfl ?_
                refine ⟨_, hF1, ?_⟩
                first
                  | (rw [decide_eq_true h97]; rfl)
                  | (rw [decide_eq_false h97]; rfl)
              · intro h97
                refine mm_wv (vb_i 1) rfl (by decide) ?_
                refine mm_wgoto ?_
                refine mm_wr rfl rfl rfl ?_
                refine ⟨_, hF1, ?_⟩
                first
                  | (rw [decide_eq_true h97]; rfl)
                  | (rw [decide_eq_false h97]; rfl)
          | true =>
            obtain ⟨ta, lta, h4, hrd⟩ := vm_t1 dM1 hh
            have hne : ¬ vb_i ta = -1 := fun e => by
              have := congrArg Int32.toInt e
              rw [vb_toInt (by omega)] at this
              have h1 : (-1 : Int32).toInt = -1 := rfl
              omega
            rw [vb_take, hh, if_pos rfl]
            refine mm_w1 rfl ?_
            refine mm_wgiv (vb_i ta) (vM_S60 hM) (by decide) (by decide) h4 ?_
            refine mm_wv (-1) rfl (by decide) ?_
            refine mm_wicne ?_ ?_
            · intro h73
              refine mm_w1 rfl ?_
              refine mm_w1 rfl ?_
              refine mm_wgiv (vb_i ta) (vM_S60 hM) (by decide) (by decide) h4 ?_
              refine mm_cvi (vb_cv (vM_S60 hM) rfl rfl rfl rfl) (by decide) (by omega) (m_reck hM hrd (by omega)) ?_
              intro I2 hf2
              have hF2 : vb_fr vm_s8 I I2 := hF1.tr (hf2.mono (fun a h => Or.inr h))
              rw [hrd.cg _ _ hv2] 
              refine mm_wifle ?_ ?_
              · intro h116
                refine mm_wv (vb_i 0) rfl (by decide) ?_
                refine mm_wr rfl rfl rfl ?_
                refine ⟨_, hF2, ?_⟩
                first
                  | (rw [decide_eq_true h116]; rfl)
                  | (rw [decide_eq_false h116]; rfl)
              · intro h116
                refine mm_wv (vb_i 1) rfl (by decide) ?_
                refine mm_wgoto ?_
                refine mm_wr rfl rfl rfl ?_
                refine ⟨_, hF2, ?_⟩
                first
                  | (rw [decide_eq_true h116]; rfl)
                  | (rw [decide_eq_false h116]; rfl)
            · intro h73
              exact absurd h73 hne 
        · intro h56
          refine mm_wv (vb_i 1) rfl (by decide) ?_
          refine mm_wr rfl rfl rfl ?_
          refine ⟨_, vb_fr.rf, ?_⟩
          rw [hlaw h27, h41, hown _ (by omega), decide_eq_false h48, hown _ (by omega), decide_eq_false (by omega : ¬ vx_in (vx_s x) to = 1 - vx_in (vx_s x) fr)]; rfl
      · intro h48
        refine mm_wv (vb_i 0) rfl (by decide) ?_
        refine mm_wr rfl rfl rfl ?_
        refine ⟨_, vb_fr.rf, ?_⟩
        first
          | (rw [q_tgt, if_pos h27, vb_has_0]; rfl)
          | (rw [hlaw h27, h41]; rfl)
          | (rw [hlaw h27, h41, hown _ (by omega), decide_eq_true h48, hown _ (by omega), decide_eq_false (by omega : ¬ vx_in (vx_s x) to = 1 - vx_in (vx_s x) fr)]; rfl)
end REF3
