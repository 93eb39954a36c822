section REF5
variable {G : mm_G} {d : Nat} {I : Nat → Nat → Int32} {P : Nat → Nat → Nat} {J : Nat → Nat → Int64} {S : List (Nat × Nat)} {nc ns : Nat} {μ : mm_M} {ℓ : vb_L} {x : vb_X} {b t : Nat}
def vx_gT (ℓ : vb_L) (x : vb_X) (t m : Nat) : Int32 := vb_ru ℓ (vx_y x t).toNatClampNeg (vb_val ℓ (vx_s x t) (vx_s x (1 - t)) (vx_f x t) (m / 10) (m % 10) (vb_i (vx_e x)))
def vx_msT (ℓ : vb_L) (x : vb_X) (t : Nat) : List Nat := vb_ms ℓ (vx_s x t) (vx_s x (1 - t)) (vb_i (vx_e x))
def vx_byT (ℓ : vb_L) (x : vb_X) (t : Nat) : Nat := if vx_y x t = -1 then 100 else (vx_pick (vx_gT ℓ x t) (vx_msT ℓ x t) (100, 0)).1
theorem vb_q_in {own foe ev : Int32} {m : Nat} (h : vb_q ℓ own foe ev m = true) : m / 10 < vb_n ℓ ∧ m % 10 < vb_n ℓ ∧ vb_has own (m / 10) = true ∧ vb_has (vb_law ℓ own foe (m / 10) ev) (m % 10) = true := by
  simp only [vb_q, Bool.and_eq_true, decide_eq_true_eq] at h
  exact ⟨h.1.1.1, h.1.1.2, h.1.2, h.2⟩
theorem vb_b_m1 (m : Nat) (h : m ≤ 100) : ¬ vb_i m = -1 := fun e => by
  have := congrArg Int32.toInt e
  rw [vb_toInt (by omega)] at this
  have h1 : (-1 : Int32).toInt = -1 := rfl
  omega
theorem m_byStyle (hM : vm_isM P S) (dM : vm_LD ℓ I) (hR : vm_row ℓ (I 76) b x t) (hb : b + 46 ≤ 276) (hli : vl_inv ℓ) (hlb : vl_bel ℓ) (hsj : vx_dj (vx_s x)) (hfj : vx_dj (vx_f x)) (hst : vx_ws x) (hok : vx_ok ℓ x) (hd : 4 ≤ d) : mm_C G d 184 [.ref 60, .int (vb_i b), .int (vx_y x t)] (I, P, J, S, nc, ns) (vb_R (some (.int (vb_i (vx_byT ℓ x t)))) (fun I' => vb_fr vm_s8 I I') P J S nc ns) := by
  have hn := vm_10 dM
  have ht := vm_r2 hR
  have he := vm_e2 hR
  have hF : vb_fr vm_s8 I I := vb_fr.rf
  have hs3 := vm_sc3 dM
  have loop := vb_down (p := fun i => ∀ (I1 : Nat → Nat → Int32) (y6 : Value) (st : Nat × Int32), y6.category = 1 → vb_fr vm_s8 I I1 → st.1 ≤ 100 → (vx_y x t = -1 → st.1 = 100) → (¬ vx_y x t = -1 → (vx_pick (vx_gT ℓ x t) (vb_rs (vb_q ℓ (vx_s x t) (vx_s x (1 - t)) (vb_i (vx_e x))) i) st).1 = vx_byT ℓ x t) → mm_W G d 184 (mm_blk 184 9) [.ref 60, .int (vb_i b), .int (vx_y x t), .int (vb_i st.1), .int st.2, .int (vb_i i), y6] [] (I1, P, J, S, nc, ns) (vb_R (some (.int (vb_i (vx_byT ℓ x t)))) (fun I' => vb_fr vm_s8 I I') P J S nc ns)) 100 (by
    intro i hi ih I1 y6 st hy6 hF1 hs1 hm1 hpk
    have hR1 : vm_row ℓ (I1 76) b x t := by rw [hF1 76 (by simp only [vm_s8]; decide)]; exact hR
    have dM1 : vm_LD ℓ I1 := dM.fr hF1 (fun a h1 h2 h3 => by simp only [vm_s8] at h3; omega)
    refine mm_w1 rfl ?_
    refine mm_wv (vb_i 100) rfl (by decide) ?_
    refine mm_nicge (by omega) (by omega) ?_ ?_
    · intro h13
      refine mm_w1 rfl ?_
      refine mm_wr rfl rfl rfl ?_
      refine ⟨_, hF1, ?_⟩
      by_cases h1 : vx_y x t = -1
      · rw [vx_byT, if_pos h1, hm1 h1]
      · have := hpk h1
        rw [vb_rs_end (by omega)] at this
        rw [← this]; rfl
    · intro h13
      refine mm_w1 rfl ?_
      refine mm_wv (-1) rfl (by decide) ?_
      refine mm_wiceq ?_ ?_
      · intro h18
        refine mm_w1 rfl ?_
        refine mm_wr rfl rfl rfl ?_
        refine ⟨_, hF1, ?_⟩
        rw [vx_byT, if_pos h18, hm1 h18]
      · intro h18
        have hpk := hpk h18
        rw [vb_rs_cons (by omega)] at hpk
        obtain ⟨r, hr, hyr⟩ := (hok t ht).resolve_left h18
        have hyn : (vx_y x t).toNatClampNeg = r := by rw [hyr, vb_nat (by omega)]
        refine mm_w1 rfl ?_
        refine mm_w1 rfl ?_
        refine mm_w1 rfl ?_
        refine mm_w1 rfl ?_
        refine mm_wgr (vM_S60 hM) (by decide) (by decide) (vM_P60_38 hM) (vM_a76 hM) ?_
        refine mm_w1 rfl ?_
        refine mm_wv (vb_i 43) rfl (by decide) ?_
        refine mm_nadd ?_
        refine mm_wiav _ (vM_a76 hM) (vM_S76 hM) (by decide) (by omega) (vm_ru hR1) ?_
        refine mm_cvi (vb_cv (vM_S60 hM) rfl rfl rfl rfl) (by decide) (by omega) (m_mayDo hM dM1 hR1 (by omega) hli hlb hsj hfj hst (by omega) (by omega) (by omega)) ?_
        intro I2 hf2
        have hF2 : vb_fr vm_s8 I I2 := hF1.tr hf2
        have hR2 : vm_row ℓ (I2 76) b x t := by rw [hF2 76 (by simp only [vm_s8]; decide)]; exact hR
        have dM2 : vm_LD ℓ I2 := dM.fr hF2 (fun a h1 h2 h3 => by simp only [vm_s8] at h3; omega)
        have hmay : vm_may ℓ x t i = vb_q ℓ (vx_s x t) (vx_s x (1 - t)) (vb_i (vx_e x)) i := by rw [vm_may, decide_eq_false (by omega), Bool.false_or]
        rw [hmay]
        refine mm_bifne ?_ ?_
        · intro h37
          obtain ⟨q1, q2, q3, q4⟩ := vb_q_in h37
          have hsd : vx_in (vx_s x) (i / 10) = t := (vx_in_eq hsj ht).mpr q3
          rw [h37, if_pos rfl] at hpk
          refine mm_w1 rfl ?_
          refine mm_w1 rfl ?_
          refine mm_w1 rfl ?_
          refine mm_wv (vb_i 10) rfl (by decide) ?_
          refine mm_ndiv (by omega) (by omega) (by omega) ?_
          refine mm_w1 rfl ?_
          refine mm_wv (vb_i 10) rfl (by decide) ?_
          refine mm_nrem (by omega) (by omega) (by omega) ?_
          refine mm_cvn (vb_cv (vM_S60 hM) rfl rfl rfl rfl) (by decide) (by omega) (m_tells (sd := t) hM dM2 hR2 hb hli hlb hsj hfj (by omega) q1 q2 ht hsd) ?_
          intro I3 hq3
          obtain ⟨hv3, hf3⟩ := hq3
          have hF3 : vb_fr vm_s8 I I3 := hF2.tr (hf3.mono (fun a h => Or.inl h))
          have dM3 : vm_LD ℓ I3 := dM.fr hF3 (fun a h1 h2 h3 => by simp only [vm_s8] at h3; omega)
          obtain ⟨ta, lta, hta, hrd⟩ := vm_sy dM3 hr
          rw [hyr] 
          refine mm_w1 rfl ?_
          refine mm_w1 rfl ?_
          refine mm_wgr (vM_S60 hM) (by decide) (by decide) (vM_P60_7 hM) (vM_a63 hM) ?_
          refine mm_w1 rfl ?_
          refine mm_wiav (vb_i ta) (vM_a63 hM) (vM_S63 hM) (by decide) (by omega) hta ?_ 
          rw [← hyr]
          refine mm_cvi (vb_cv (vM_S60 hM) rfl rfl rfl rfl) (by decide) (by omega) (m_reck hM hrd (by omega)) ?_
          intro I4 hf4
          have hF4 : vb_fr vm_s8 I I4 := hF3.tr (hf4.mono (fun a h => Or.inr h))
          have hg : vb_ru ℓ r (I3 78) = vx_gT ℓ x t i := by
            rw [vx_gT, hyn]; exact hrd.cg _ _ hv3
          rw [hg] 
          refine mm_w1 (ls' := [_, _, _, _, _, _, _]) rfl ?_
          refine mm_w1 rfl ?_
          refine mm_w1 rfl ?_
          refine mm_wicgt ?_ ?_
          · intro h74
            refine mm_w1 rfl ?_
            refine mm_w1 (ls' := [_, _, _, _, _, _, _]) rfl ?_
            refine mm_w1 rfl ?_
            refine mm_w1 (ls' := [_, _, _, _, _, _, _]) rfl ?_
            refine mm_nincL (ls' := [_, _, _, _, _, _, _]) 1 rfl (by decide) rfl ?_
            refine mm_wgoto ?_
            have hst : vx_pick (vx_gT ℓ x t) (i :: vb_rs (vb_q ℓ (vx_s x t) (vx_s x (1 - t)) (vb_i (vx_e x))) (i + 1)) st = vx_pick (vx_gT ℓ x t) (vb_rs (vb_q ℓ (vx_s x t) (vx_s x (1 - t)) (vb_i (vx_e x))) (i + 1)) (if st.2 < vx_gT ℓ x t i then (i, vx_gT ℓ x t i) else st) := rfl
            rw [hst] at hpk
            first
              | (rw [if_pos h74] at hpk; exact ih (by omega) I4 _ (i, vx_gT ℓ x t i) rfl hF4 (by show i ≤ 100; omega) (fun h => absurd h h18) (fun _ => hpk))
              | (rw [if_neg h74] at hpk; exact ih (by omega) I4 _ st rfl hF4 hs1 hm1 (fun _ => hpk))
          · intro h74
            refine mm_wgoto ?_
            refine mm_nincL (ls' := [_, _, _, _, _, _, _]) 1 rfl (by decide) rfl ?_
            refine mm_wgoto ?_
            have hst : vx_pick (vx_gT ℓ x t) (i :: vb_rs (vb_q ℓ (vx_s x t) (vx_s x (1 - t)) (vb_i (vx_e x))) (i + 1)) st = vx_pick (vx_gT ℓ x t) (vb_rs (vb_q ℓ (vx_s x t) (vx_s x (1 - t)) (vb_i (vx_e x))) (i + 1)) (if st.2 < vx_gT ℓ x t i then (i, vx_gT ℓ x t i) else st) := rfl
            rw [hst] at hpk
            first
              | (rw [if_pos h74] at hpk; exact ih (by omega) I4 _ (i, vx_gT ℓ x t i) rfl hF4 (by show i ≤ 100; omega) (fun h => absurd h h18) (fun _ => hpk))
              | (rw [if_neg h74] at hpk; exact ih (by omega) I4 _ st rfl hF4 hs1 hm1 (fun _ => hpk))
        · intro h37
          rw [h37, if_neg (by decide)] at hpk
          refine mm_wgoto ?_
          refine mm_nincL (ls' := [_, _, _, _, _, _, _]) 1 rfl (by decide) rfl ?_
          refine mm_wgoto ?_
          exact ih (by omega) I2 _ st hy6 hF2 hs1 hm1 (fun _ => hpk)  
    )
  show mm_W _ _ 184 (mm_blk 184 0) [.ref 60, .int (vb_i b), .int (vx_y x t), .null, .null, .null, .null] [] _ _
  refine mm_wv (vb_i 100) rfl (by decide) ?_
  refine mm_w1 (ls' := [_, _, _, _, _, _, _]) rfl ?_
  refine mm_wv (vb_i 0) rfl (by decide) ?_
  refine mm_w1 (ls' := [_, _, _, _, _, _, _]) rfl ?_
  refine mm_wv (vb_i 0) rfl (by decide) ?_
  refine mm_w1 (ls' := [_, _, _, _, _, _, _]) rfl ?_
  exact loop 0 (by omega) I _ (100, 0) rfl hF (by decide) (fun _ => rfl) (fun h => by rw [vx_byT, if_neg h]; rfl)
theorem m_by (hM : vm_isM P S) (dM : vm_LD ℓ I) (hR : vm_row ℓ (I 76) b x t) (hb : b + 46 ≤ 276) (hli : vl_inv ℓ) (hlb : vl_bel ℓ) (hsj : vx_dj (vx_s x)) (hfj : vx_dj (vx_f x)) (hst : vx_ws x) (hok : vx_ok ℓ x) (hd : 5 ≤ d) : mm_C G d 185 [.ref 60, .int (vb_i b)] (I, P, J, S, nc, ns) (vb_R (some (.int (vb_i (vx_byT ℓ x t)))) (fun I' => vb_fr vm_s8 I I') P J S nc ns) := by
  have hn := vm_10 dM
  have ht := vm_r2 hR
  have he := vm_e2 hR
  have hF : vb_fr vm_s8 I I := vb_fr.rf
  show mm_W _ _ 185 (mm_blk 185 0) [.ref 60, .int (vb_i b)] [] _ _
  refine mm_w1 rfl ?_
  refine mm_w1 rfl ?_
  refine mm_w1 rfl ?_
  refine mm_wgr (vM_S60 hM) (by decide) (by decide) (vM_P60_38 hM) (vM_a76 hM) ?_
  refine mm_w1 rfl ?_
  refine mm_wv (vb_i 44) rfl (by decide) ?_
  refine mm_nadd ?_
  refine mm_w1 rfl ?_
  refine mm_wgr (vM_S60 hM) (by decide) (by decide) (vM_P60_38 hM) (vM_a76 hM) ?_
  refine mm_w1 rfl ?_
  refine mm_wv (vb_i 43) rfl (by decide) ?_
  refine mm_nadd ?_
  refine mm_wiav _ (vM_a76 hM) (vM_S76 hM) (by decide) (by omega) (vm_ru hR) ?_
  refine mm_nadd ?_
  refine mm_wiav _ (vM_a76 hM) (vM_S76 hM) (by decide) (by omega) (vm_ry hR ht) ?_
  refine mm_cvi (vb_cv (vM_S60 hM) rfl rfl rfl rfl) (by decide) (by omega) (m_byStyle hM dM hR hb hli hlb hsj hfj hst hok (by omega)) ?_
  intro I1 hf1
  refine mm_wr rfl rfl rfl ?_
  exact ⟨_, hf1, rfl⟩
theorem m_stones {sd : Nat} (hM : vm_isM P S) (dM : vm_LD ℓ I) (hR : vm_row ℓ (I 76) b x t) (hb : b + 46 ≤ 276) (hs : sd ≤ 2) : mm_Call G d 186 [.ref 60, .int (vb_i b), .int (vb_i sd)] (I, P, J, S, nc, ns) (.inl (some (.int (vb_set (vb_n ℓ) (fun v => decide (vx_in (vx_s x) v = sd))))), (I, P, J, S, nc, ns)) := by
  have hn := vm_10 dM
  refine mm_C.call ?_
  have loop := vb_down (p := fun i => mm_W G d 186 (mm_blk 186 5) [.ref 60, .int (vb_i b), .int (vb_i sd), .int (vb_set i (fun v => decide (vx_in (vx_s x) v = sd))), .int (vb_i i)] [] (I, P, J, S, nc, ns) (fun q => q = (.inl (some (.int (vb_set (vb_n ℓ) (fun v => decide (vx_in (vx_s x) v = sd))))), (I, P, J, S, nc, ns)))) (vb_n ℓ) (by
    intro i hi ih
    have hin := vx_in2 (vx_s x) i
    refine mm_w1 rfl ?_
    refine mm_w1 rfl ?_
    refine mm_wgiv _ (vM_S60 hM) (by decide) (by decide) (vm_n dM) ?_
    refine mm_nicge (by omega) (by omega) ?_ ?_
    · intro h11
      refine mm_w1 rfl ?_
      refine mm_wr rfl rfl rfl ?_
      rw [show i = vb_n ℓ by omega]
    · intro h11
      refine mm_w1 rfl ?_
      refine mm_w1 rfl ?_
      refine mm_wgr (vM_S60 hM) (by decide) (by decide) (vM_P60_38 hM) (vM_a76 hM) ?_
      refine mm_w1 rfl ?_
      refine mm_wv (vb_i 0) rfl (by decide) ?_
      refine mm_nadd ?_
      refine mm_w1 rfl ?_
      refine mm_nadd ?_
      refine mm_wiav _ (vM_a76 hM) (vM_S76 hM) (by decide) (by omega) (vm_rs hR (by omega)) ?_
      refine mm_w1 rfl ?_
      refine mm_nicne (by omega) (by omega) ?_ ?_
      · intro h27
        refine mm_wv (vb_i 0) rfl (by decide) ?_
        refine mm_w1 rfl ?_ 
        refine mm_w1 (ls' := [_, _, _, _, _]) rfl ?_
        refine mm_nincL (ls' := [_, _, _, _, _]) 1 rfl (by decide) rfl ?_
        refine mm_wgoto ?_
        have ih := ih (by omega)
        simp only [vb_set] at ih
        first
          | (rw [if_pos (decide_eq_true h27)] at ih; exact ih)
          | (rw [if_neg (fun e => h27 (of_decide_eq_true e))] at ih
             rw [show ∀ z : Int32, z ||| vb_i 0 = z from fun z => by rw [show (vb_i 0 : Int32) = 0 from rfl, Int32.or_zero]]
             exact ih)
      · intro h27
        refine mm_wv (vb_i 1) rfl (by decide) ?_
        refine mm_w1 rfl ?_
        refine mm_nbit (by omega) ?_
        refine mm_wgoto ?_
        refine mm_w1 rfl ?_ 
        refine mm_w1 (ls' := [_, _, _, _, _]) rfl ?_
        refine mm_nincL (ls' := [_, _, _, _, _]) 1 rfl (by decide) rfl ?_
        refine mm_wgoto ?_
        have ih := ih (by omega)
        simp only [vb_set] at ih
        first
          | (rw [if_pos (decide_eq_true h27)] at ih; exact ih)
          | (rw [if_neg (fun e => h27 (of_decide_eq_true e))] at ih
             rw [show ∀ z : Int32, z ||| vb_i 0 = z from fun z => by rw [show (vb_i 0 : Int32) = 0 from rfl, Int32.or_zero]]
             exact ih)
    )
  show mm_W _ _ 186 (mm_blk 186 0) [.ref 60, .int (vb_i b), .int (vb_i sd), .null, .null] [] _ _
  refine mm_wv (vb_i 0) rfl (by decide) ?_
  refine mm_w1 (ls' := [_, _, _, _, _]) rfl ?_
  refine mm_wv (vb_i 0) rfl (by decide) ?_
  refine mm_w1 (ls' := [_, _, _, _, _]) rfl ?_
  exact loop 0 (by omega)
theorem m_flags {sd : Nat} (hM : vm_isM P S) (dM : vm_LD ℓ I) (hR : vm_row ℓ (I 76) b x t) (hb : b + 46 ≤ 276) (hs : sd ≤ 2) : mm_Call G d 187 [.ref 60, .int (vb_i b), .int (vb_i sd)] (I, P, J, S, nc, ns) (.inl (some (.int (vb_set (vb_n ℓ) (fun v => decide (vx_in (vx_f x) v = sd))))), (I, P, J, S, nc, ns)) := by
  have hn := vm_10 dM
  refine mm_C.call ?_
  have loop := vb_down (p := fun i => mm_W G d 187 (mm_blk 187 5) [.ref 60, .int (vb_i b), .int (vb_i sd), .int (vb_set i (fun v => decide (vx_in (vx_f x) v = sd))), .int (vb_i i)] [] (I, P, J, S, nc, ns) (fun q => q = (.inl (some (.int (vb_set (vb_n ℓ) (fun v => decide (vx_in (vx_f x) v = sd))))), (I, P, J, S, nc, ns)))) (vb_n ℓ) (by
    intro i hi ih
    have hin := vx_in2 (vx_f x) i
    refine mm_w1 rfl ?_
    refine mm_w1 rfl ?_
    refine mm_wgiv _ (vM_S60 hM) (by decide) (by decide) (vm_n dM) ?_
    refine mm_nicge (by omega) (by omega) ?_ ?_
    · intro h11
      refine mm_w1 rfl ?_
      refine mm_wr rfl rfl rfl ?_
      rw [show i = vb_n ℓ by omega]
    · intro h11
      refine mm_w1 rfl ?_
      refine mm_w1 rfl ?_
      refine mm_wgr (vM_S60 hM) (by decide) (by decide) (vM_P60_38 hM) (vM_a76 hM) ?_
      refine mm_w1 rfl ?_
      refine mm_wv (vb_i 10) rfl (by decide) ?_
      refine mm_nadd ?_
      refine mm_w1 rfl ?_
      refine mm_nadd ?_
      refine mm_wiav _ (vM_a76 hM) (vM_S76 hM) (by decide) (by omega) (vm_rf hR (by omega)) ?_
      refine mm_w1 rfl ?_
      refine mm_nicne (by omega) (by omega) ?_ ?_
      · intro h28
        refine mm_wv (vb_i 0) rfl (by decide) ?_
        refine mm_w1 rfl ?_ 
        refine mm_w1 (ls' := [_, _, _, _, _]) rfl ?_
        refine mm_nincL (ls' := [_, _, _, _, _]) 1 rfl (by decide) rfl ?_
        refine mm_wgoto ?_
        have ih := ih (by omega)
        simp only [vb_set] at ih
        first
          | (rw [if_pos (decide_eq_true h28)] at ih; exact ih)
          | (rw [if_neg (fun e => h28 (of_decide_eq_true e))] at ih
             rw [show ∀ z : Int32, z ||| vb_i 0 = z from fun z => by rw [show (vb_i 0 : Int32) = 0 from rfl, Int32.or_zero]]
             exact ih)
      · intro h28
        refine mm_wv (vb_i 1) rfl (by decide) ?_
        refine mm_w1 rfl ?_
        refine mm_nbit (by omega) ?_
        refine mm_wgoto ?_
        refine mm_w1 rfl ?_ 
        refine mm_w1 (ls' := [_, _, _, _, _]) rfl ?_
        refine mm_nincL (ls' := [_, _, _, _, _]) 1 rfl (by decide) rfl ?_
        refine mm_wgoto ?_
        have ih := ih (by omega)
        simp only [vb_set] at ih
        first
          | (rw [if_pos (decide_eq_true h28)] at ih; exact ih)
          | (rw [if_neg (fun e => h28 (of_decide_eq_true e))] at ih
             rw [show ∀ z : Int32, z ||| vb_i 0 = z from fun z => by rw [show (vb_i 0 : Int32) = 0 from rfl, Int32.or_zero]]
             exact ih)
    )
  show mm_W _ _ 187 (mm_blk 187 0) [.ref 60, .int (vb_i b), .int (vb_i sd), .null, .null] [] _ _
  refine mm_wv (vb_i 0) rfl (by decide) ?_
  refine mm_w1 (ls' := [_, _, _, _, _]) rfl ?_
  refine mm_wv (vb_i 0) rfl (by decide) ?_
  refine mm_w1 (ls' := [_, _, _, _, _]) rfl ?_
  exact loop 0 (by omega)
theorem m_worth {sd : Nat} (hM : vm_isM P S) (dM : vm_LD ℓ I) (hR : vm_row ℓ (I 76) b x t) (hb : b + 46 ≤ 276) (hfj : vx_dj (vx_f x)) (hs : sd < 2) : mm_Call G d 188 [.ref 60, .int (vb_i b), .int (vb_i sd)] (I, P, J, S, nc, ns) (.inl (some (.int (vb_worth ℓ (vx_f x sd)))), (I, P, J, S, nc, ns)) := by
  have hn := vm_10 dM
  refine mm_C.call ?_
  have loop := vb_down (p := fun i => mm_W G d 188 (mm_blk 188 5) [.ref 60, .int (vb_i b), .int (vb_i sd), .int (vb_sum i (fun v => if vb_has (vx_f x sd) v then vb_wo ℓ v else 0)), .int (vb_i i)] [] (I, P, J, S, nc, ns) (fun q => q = (.inl (some (.int (vb_worth ℓ (vx_f x sd)))), (I, P, J, S, nc, ns)))) (vb_n ℓ) (by
    intro i hi ih
    have hin := vx_in2 (vx_f x) i
    refine mm_w1 rfl ?_
    refine mm_w1 rfl ?_
    refine mm_wgiv _ (vM_S60 hM) (by decide) (by decide) (vm_n dM) ?_
    refine mm_nicge (by omega) (by omega) ?_ ?_
    · intro h11
      refine mm_w1 rfl ?_
      refine mm_wr rfl rfl rfl ?_
      rw [show i = vb_n ℓ by omega]; rfl
    · intro h11
      refine mm_w1 rfl ?_
      refine mm_w1 rfl ?_
      refine mm_wgr (vM_S60 hM) (by decide) (by decide) (vM_P60_38 hM) (vM_a76 hM) ?_
      refine mm_w1 rfl ?_
      refine mm_wv (vb_i 10) rfl (by decide) ?_
      refine mm_nadd ?_
      refine mm_w1 rfl ?_
      refine mm_nadd ?_
      refine mm_wiav _ (vM_a76 hM) (vM_S76 hM) (by decide) (by omega) (vm_rf hR (by omega)) ?_
      refine mm_w1 rfl ?_
      refine mm_nicne (by omega) (by omega) ?_ ?_
      · intro h28
        refine mm_wv (vb_i 0) rfl (by decide) ?_
        refine mm_w1 rfl ?_
        refine mm_w1 (ls' := [_, _, _, _, _]) rfl ?_
        refine mm_nincL (ls' := [_, _, _, _, _]) 1 rfl (by decide) rfl ?_
        refine mm_wgoto ?_
        have ih := ih (by omega)
        simp only [vb_sum] at ih
        first
          | (rw [(vx_in_eq hfj hs).mp h28, if_pos rfl] at ih; exact ih)
          | (rw [show vb_has (vx_f x sd) i = false by rw [← vx_in_dec hfj hs]; exact decide_eq_false h28, if_neg (by decide)] at ih; exact ih)
      · intro h28
        refine mm_w1 rfl ?_
        refine mm_wgr (vM_S60 hM) (by decide) (by decide) (vM_P60_5 hM) (vM_a61 hM) ?_
        refine mm_w1 rfl ?_
        refine mm_wiav _ (vM_a61 hM) (vM_S61 hM) (by decide) (by omega) (vm_wo dM (by omega)) ?_
        refine mm_wgoto ?_
        refine mm_w1 rfl ?_
        refine mm_w1 (ls' := [_, _, _, _, _]) rfl ?_
        refine mm_nincL (ls' := [_, _, _, _, _]) 1 rfl (by decide) rfl ?_
        refine mm_wgoto ?_
        have ih := ih (by omega)
        simp only [vb_sum] at ih
        first
          | (rw [(vx_in_eq hfj hs).mp h28, if_pos rfl] at ih; exact ih)
          | (rw [show vb_has (vx_f x sd) i = false by rw [← vx_in_dec hfj hs]; exact decide_eq_false h28, if_neg (by decide)] at ih; exact ih)
    )
  show mm_W _ _ 188 (mm_blk 188 0) [.ref 60, .int (vb_i b), .int (vb_i sd), .null, .null] [] _ _
  refine mm_wv (vb_i 0) rfl (by decide) ?_
  refine mm_w1 (ls' := [_, _, _, _, _]) rfl ?_
  refine mm_wv (vb_i 0) rfl (by decide) ?_
  refine mm_w1 (ls' := [_, _, _, _, _]) rfl ?_
  exact loop 0 (by omega)
theorem m_score {sd : Nat} (hM : vm_isM P S) (dM : vm_LD ℓ I) (hR : vm_row ℓ (I 76) b x t) (hb : b + 46 ≤ 276) (hfj : vx_dj (vx_f x)) (hs : sd < 2) (hd : 1 ≤ d) : mm_Call G d 209 [.ref 60, .int (vb_i b), .int (vb_i sd)] (I, P, J, S, nc, ns) (.inl (some (.int (vb_worth ℓ (vx_f x sd) - vb_worth ℓ (vx_f x (1 - sd))))), (I, P, J, S, nc, ns)) := by
  refine mm_C.call ?_
  show mm_W _ _ 209 (mm_blk 209 0) [.ref 60, .int (vb_i b), .int (vb_i sd)] [] _ _
  refine mm_w1 rfl ?_
  refine mm_w1 rfl ?_
  refine mm_w1 rfl ?_
  refine mm_cvp (vb_cv (vM_S60 hM) rfl rfl rfl rfl) (by decide) (by omega) (m_worth hM dM hR (by omega) hfj (by omega)) ?_
  refine mm_w1 rfl ?_
  refine mm_w1 rfl ?_
  refine mm_wv (vb_i 1) rfl (by decide) ?_
  refine mm_w1 rfl ?_
  refine mm_nsub (by omega) ?_
  refine mm_cvp (vb_cv (vM_S60 hM) rfl rfl rfl rfl) (by decide) (by omega) (m_worth hM dM hR (by omega) hfj (by omega)) ?_
  refine mm_w1 rfl ?_
  refine mm_wr rfl rfl rfl ?_
  exact rfl
theorem m_told {m : Nat} (hm : m ≤ 100) : mm_Call G d 213 [.int (vb_i m)] μ (.inl (some (.int (vb_told m))), μ) := by
  refine mm_C.call ?_
  show mm_W _ _ 213 (mm_blk 213 0) [.int (vb_i m)] [] _ _
  refine mm_w1 rfl ?_
  refine mm_wv (vb_i 100) rfl (by decide) ?_
  refine mm_nicne (by omega) (by omega) ?_ ?_
  · intro h3
    refine mm_w1 rfl ?_
    refine mm_wv (vb_i 10) rfl (by decide) ?_
    refine mm_ndiv (by omega) (by omega) (by omega) ?_
    refine mm_wv (vb_i 100) rfl (by decide) ?_
    refine mm_nmul ?_
    refine mm_w1 rfl ?_
    refine mm_wv (vb_i 10) rfl (by decide) ?_
    refine mm_nrem (by omega) (by omega) (by omega) ?_
    refine mm_nadd ?_
    refine mm_wr rfl rfl rfl ?_
    first
      | (rw [vb_told, if_pos h3])
      | (rw [vb_told_lt (by omega), Nat.mul_comm])
  · intro h3
    refine mm_wv (-1) rfl (by decide) ?_
    refine mm_wgoto ?_
    refine mm_wr rfl rfl rfl ?_
    first
      | (rw [vb_told, if_pos h3])
      | (rw [vb_told_lt (by omega), Nat.mul_comm])
end REF5
