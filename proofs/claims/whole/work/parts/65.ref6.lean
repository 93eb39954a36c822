theorem vb_set_s1 {n : Nat} {p : Nat → Bool} (h : p n = true) : vb_set (n + 1) p = vb_set n p ||| vb_bit n := by simp only [vb_set]; rw [if_pos h]
theorem vb_set_s0 {n : Nat} {p : Nat → Bool} (h : p n = false) : vb_set (n + 1) p = vb_set n p := by simp only [vb_set]; rw [if_neg (by rw [h]; decide)]
section REF6
variable {G : mm_G} {d : Nat} {I : Nat → Nat → Int32} {P : Nat → Nat → Nat} {J : Nat → Nat → Int64} {S : List (Nat × Nat)} {nc ns : Nat} {μ : mm_M} {ℓ : vb_L} {x : vb_X} {b t : Nat}
/-- who takes a stone -/
def vm_tkf (ℓ : vb_L) (x : vb_X) (sd to v : Nat) : Bool := vb_has (vb_nb ℓ to &&& vx_s x (1 - sd)) v && vb_take ℓ (vx_s x (1 - sd)) (vx_s x sd) v to (vb_i (vx_e x))
theorem vm_tk1 (hn : vb_n ℓ ≤ 10) (hli : vl_inv ℓ) (hsj : vx_dj (vx_s x)) {sd to v : Nat} (hs : sd < 2) (hto : to < vb_n ℓ) (hv : v < vb_n ℓ) (hsd : vx_in (vx_s x) to = sd) (hvs : vx_in (vx_s x) v = 1 - sd) : vb_has (q_tgt ℓ x v) to = vm_tkf ℓ x sd to v := by
  have e : 1 - (1 - sd) = sd := by omega
  have h1 : vb_has (vx_s x sd) to = true := (vx_in_eq hsj hs).mp hsd
  have h2 : vb_has (vx_s x (1 - sd)) to = false := by rw [← vx_in_dec hsj (by omega)]; exact decide_eq_false (by omega)
  have h3 : vb_has (vx_s x (1 - sd)) v = true := (vx_in_eq hsj (by omega)).mp hvs
  rw [q_tgt, hvs, if_neg (by omega), e, vb_law, vb_has_set _ (by omega), decide_eq_true hto, h1, h2, vm_tkf, vb_has_and, h3, vl_sym hli hv hto]
  simp
theorem vm_tk0 (hsj : vx_dj (vx_s x)) {sd to v : Nat} (hs : sd < 2) (hvs : ¬ vx_in (vx_s x) v = 1 - sd) : vm_tkf ℓ x sd to v = false := by
  have h3 : vb_has (vx_s x (1 - sd)) v = false := by rw [← vx_in_dec hsj (by omega)]; exact decide_eq_false hvs
  rw [vm_tkf, vb_has_and, h3]; simp
theorem vm_tks (sd to : Nat) : vb_tk ℓ (vx_s x sd) (vx_s x (1 - sd)) to (vb_i (vx_e x)) = vb_set (vb_n ℓ) (vm_tkf ℓ x sd to) := rfl
theorem m_taken {to sd : Nat} (hM : vm_isM P S) (dM : vm_LD ℓ I) (hR : vm_row ℓ (I 76) b x t) (hb : b + 46 ≤ 276) (hli : vl_inv ℓ) (hlb : vl_bel ℓ) (hsj : vx_dj (vx_s x)) (hfj : vx_dj (vx_f x)) (hst : vx_ws x) (hd : 3 ≤ d) (hto : to < vb_n ℓ) (hs : sd < 2) (hsd : vx_in (vx_s x) to = sd) : mm_C G d 189 [.ref 60, .int (vb_i b), .int (vb_i to)] (I, P, J, S, nc, ns) (vb_R (some (.int (vb_b (!(vb_tk ℓ (vx_s x sd) (vx_s x (1 - sd)) to (vb_i (vx_e x)) == 0))))) (fun I' => vb_fr vm_s8 I I') P J S nc ns) := by
  have hn := vm_10 dM
  have ht := vm_r2 hR
  have he := vm_e2 hR
  have hF : vb_fr vm_s8 I I := vb_fr.rf
  have loop := vb_down (p := fun i => ∀ (I1 : Nat → Nat → Int32), vb_fr vm_s8 I I1 → (∀ v, v < i → vm_tkf ℓ x sd to v = false) → mm_W G d 189 (mm_blk 189 2) [.ref 60, .int (vb_i b), .int (vb_i to), .int (vb_i i)] [] (I1, P, J, S, nc, ns) (vb_R (some (.int (vb_b (!(vb_tk ℓ (vx_s x sd) (vx_s x (1 - sd)) to (vb_i (vx_e x)) == 0))))) (fun I' => vb_fr vm_s8 I I') P J S nc ns)) (vb_n ℓ) (by
    intro i hi ih I1 hF1 hno
    have hR1 : vm_row ℓ (I1 76) b x t := by rw [hF1 76 (by simp only [vm_s8]; decide)]; exact hR
    have dM1 : vm_LD ℓ I1 := dM.fr hF1 (fun a h1 h2 h3 => by simp only [vm_s8] at h3; omega)
    have hin := vx_in2 (vx_s x) i
    refine mm_w1 rfl ?_
    refine mm_w1 rfl ?_
    refine mm_wgiv _ (vM_S60 hM) (by decide) (by decide) (vm_n dM1) ?_
    refine mm_nicge (by omega) (by omega) ?_ ?_
    · intro h7
      refine mm_wv (vb_i 0) rfl (by decide) ?_
      refine mm_wr rfl rfl rfl ?_
      refine ⟨_, hF1, ?_⟩
      have hz : vb_tk ℓ (vx_s x sd) (vx_s x (1 - sd)) to (vb_i (vx_e x)) = 0 := by
        rw [vm_tks, vb_set_eq0 (by omega)]
        exact fun v hv => hno v (by omega)
      rw [vb_eqb hz]; rfl
    · intro h7
      refine mm_w1 rfl ?_
      refine mm_wgr (vM_S60 hM) (by decide) (by decide) (vM_P60_38 hM) (vM_a76 hM) ?_
      refine mm_w1 rfl ?_
      refine mm_wv (vb_i 0) rfl (by decide) ?_
      refine mm_nadd ?_
      refine mm_w1 rfl ?_
      refine mm_nadd ?_
      refine mm_wiav _ (vM_a76 hM) (vM_S76 hM) (by decide) (by omega) (vm_rs hR1 (by omega)) ?_
      refine mm_wv (vb_i 1) rfl (by decide) ?_
      refine mm_w1 rfl ?_
      refine mm_wgr (vM_S60 hM) (by decide) (by decide) (vM_P60_38 hM) (vM_a76 hM) ?_
      refine mm_w1 rfl ?_
      refine mm_wv (vb_i 0) rfl (by decide) ?_
      refine mm_nadd ?_
      refine mm_w1 rfl ?_
      refine mm_nadd ?_
      refine mm_wiav (vb_i sd) (vM_a76 hM) (vM_S76 hM) (by decide) (by omega) (by rw [vm_rs hR1 hto, hsd]) ?_
      refine mm_nsub (by omega) ?_
      refine mm_nicne (by omega) (by omega) ?_ ?_
      · intro h32
        refine mm_nincL (ls' := [_, _, _, _]) 1 rfl (by decide) rfl ?_
        refine mm_wgoto ?_
        refine ih (by omega) _ hF1 (fun v hv => ?_)
        by_cases e : v = i
        · subst e
          first
            | exact vm_tk0 hsj hs h32
            | (rw [vm_tk1 hn hli hsj hs hto (by omega) hsd h32] at h42; exact h42)
        · exact hno v (by omega)
      · intro h32
        refine mm_w1 rfl ?_
        refine mm_w1 rfl ?_
        refine mm_w1 rfl ?_
        refine mm_w1 rfl ?_
        refine mm_cvi (vb_cv (vM_S60 hM) rfl rfl rfl rfl) (by decide) (by omega) (m_mayGo hM dM1 hR1 (by omega) hli hlb hsj hfj (fun s hs h => hst s hs _ h) (by omega) (by omega) (by omega)) ?_
        intro I2 hf2
        have hF2 : vb_fr vm_s8 I I2 := hF1.tr hf2
        have hR2 : vm_row ℓ (I2 76) b x t := by rw [hF2 76 (by simp only [vm_s8]; decide)]; exact hR
        have dM2 : vm_LD ℓ I2 := dM.fr hF2 (fun a h1 h2 h3 => by simp only [vm_s8] at h3; omega)
        refine mm_bifeq ?_ ?_
        · intro h42
          refine mm_nincL (ls' := [_, _, _, _]) 1 rfl (by decide) rfl ?_
          refine mm_wgoto ?_
          refine ih (by omega) _ hF2 (fun v hv => ?_)
          by_cases e : v = i
          · subst e
            first
              | exact vm_tk0 hsj hs h32
              | (rw [vm_tk1 hn hli hsj hs hto (by omega) hsd h32] at h42; exact h42)
          · exact hno v (by omega)
        · intro h42
          refine mm_wv (vb_i 1) rfl (by decide) ?_
          refine mm_wr rfl rfl rfl ?_
          rw [vm_tk1 hn hli hsj hs hto (by omega) hsd h32] at h42
          refine ⟨_, hF2, ?_⟩
          have hz : ¬ vb_tk ℓ (vx_s x sd) (vx_s x (1 - sd)) to (vb_i (vx_e x)) = 0 := fun e => by
            rw [vm_tks, vb_set_eq0 (by omega)] at e
            rw [e i (by omega)] at h42; cases h42
          rw [vb_neb hz]; rfl
    )
  show mm_W _ _ 189 (mm_blk 189 0) [.ref 60, .int (vb_i b), .int (vb_i to), .null] [] _ _
  refine mm_wv (vb_i 0) rfl (by decide) ?_
  refine mm_w1 (ls' := [_, _, _, _]) rfl ?_
  exact loop 0 (by omega) I hF (fun v h => absurd h (by omega))
theorem m_prised {sd : Nat} (hM : vm_isM P S) (dM : vm_LD ℓ I) (hR : vm_row ℓ (I 76) b x t) (hb : b + 46 ≤ 276) (hli : vl_inv ℓ) (hlb : vl_bel ℓ) (hsj : vx_dj (vx_s x)) (hfj : vx_dj (vx_f x)) (hst : vx_ws x) (hd : 4 ≤ d) (hs : sd < 2) : mm_C G d 190 [.ref 60, .int (vb_i b), .int (vb_i sd)] (I, P, J, S, nc, ns) (vb_R (some (.int (vb_ep ℓ (vx_s x sd) (vx_s x (1 - sd)) (vb_i (vx_e x))))) (fun I' => vb_fr vm_s8 I I') P J S nc ns) := by
  have hn := vm_10 dM
  have ht := vm_r2 hR
  have he := vm_e2 hR
  have hF : vb_fr vm_s8 I I := vb_fr.rf
  have loop := vb_down (p := fun i => ∀ (I1 : Nat → Nat → Int32), vb_fr vm_s8 I I1 → mm_W G d 190 (mm_blk 190 5) [.ref 60, .int (vb_i b), .int (vb_i sd), .int (vb_set i (fun v => vb_has (vx_s x sd) v && !(vb_tk ℓ (vx_s x sd) (vx_s x (1 - sd)) v (vb_i (vx_e x)) == 0))), .int (vb_i i)] [] (I1, P, J, S, nc, ns) (vb_R (some (.int (vb_ep ℓ (vx_s x sd) (vx_s x (1 - sd)) (vb_i (vx_e x))))) (fun I' => vb_fr vm_s8 I I') P J S nc ns)) (vb_n ℓ) (by
    intro i hi ih I1 hF1
    have hR1 : vm_row ℓ (I1 76) b x t := by rw [hF1 76 (by simp only [vm_s8]; decide)]; exact hR
    have dM1 : vm_LD ℓ I1 := dM.fr hF1 (fun a h1 h2 h3 => by simp only [vm_s8] at h3; omega)
    have hin := vx_in2 (vx_s x) i
    refine mm_w1 rfl ?_
    refine mm_w1 rfl ?_
    refine mm_wgiv _ (vM_S60 hM) (by decide) (by decide) (vm_n dM1) ?_
    refine mm_nicge (by omega) (by omega) ?_ ?_
    · intro h11
      refine mm_w1 rfl ?_
      refine mm_wr rfl rfl rfl ?_
      refine ⟨_, hF1, ?_⟩
      rw [show i = vb_n ℓ by omega]; rfl
    · intro h11
      refine mm_w1 rfl ?_
      refine mm_w1 rfl ?_
      refine mm_wgr (vM_S60 hM) (by decide) (by decide) (vM_P60_38 hM) (vM_a76 hM) ?_
      refine mm_w1 rfl ?_
      refine mm_wv (vb_i 0) rfl (by decide) ?_
      refine mm_nadd ?_
      refine mm_w1 rfl ?_
      refine mm_nadd ?_
      refine mm_wiav _ (vM_a76 hM) (vM_S76 hM) (by decide) (by omega) (vm_rs hR1 (by omega)) ?_
      refine mm_w1 rfl ?_
      refine mm_nicne (by omega) (by omega) ?_ ?_
      · intro h27
        refine mm_wv (vb_i 0) rfl (by decide) ?_
        refine mm_w1 rfl ?_
        rw [show ∀ z : Int32, z ||| vb_i 0 = z from fun z => by rw [show (vb_i 0 : Int32) = 0 from rfl, Int32.or_zero]]
        refine mm_w1 (ls' := [_, _, _, _, _]) rfl ?_
        refine mm_nincL (ls' := [_, _, _, _, _]) 1 rfl (by decide) rfl ?_
        refine mm_wgoto ?_
        have ih := ih (by omega) _ hF1
        first
          | (rw [vb_set_s0 (p := (fun v => vb_has (vx_s x sd) v && !(vb_tk ℓ (vx_s x sd) (vx_s x (1 - sd)) v (vb_i (vx_e x)) == 0))) (by show (vb_has (vx_s x sd) i && _) = false; rw [show vb_has (vx_s x sd) i = false by rw [← vx_in_dec hsj hs]; exact decide_eq_false h27]; rfl)] at ih; exact ih)
          | (rw [vb_set_s1 (p := (fun v => vb_has (vx_s x sd) v && !(vb_tk ℓ (vx_s x sd) (vx_s x (1 - sd)) v (vb_i (vx_e x)) == 0))) (by show (vb_has (vx_s x sd) i && _) = true; rw [(vx_in_eq hsj hs).mp h27, h37]; rfl)] at ih; exact ih)
          | (rw [vb_set_s0 (p := (fun v => vb_has (vx_s x sd) v && !(vb_tk ℓ (vx_s x sd) (vx_s x (1 - sd)) v (vb_i (vx_e x)) == 0))) (by show (vb_has (vx_s x sd) i && _) = false; rw [(vx_in_eq hsj hs).mp h27, h37]; rfl)] at ih; exact ih)
      · intro h27
        refine mm_w1 rfl ?_
        refine mm_w1 rfl ?_
        refine mm_w1 rfl ?_
        refine mm_cvi (vb_cv (vM_S60 hM) rfl rfl rfl rfl) (by decide) (by omega) (m_taken (sd := sd) hM dM1 hR1 (by omega) hli hlb hsj hfj hst (by omega) (by omega) hs h27) ?_
        intro I2 hf2
        have hF2 : vb_fr vm_s8 I I2 := hF1.tr hf2
        have hR2 : vm_row ℓ (I2 76) b x t := by rw [hF2 76 (by simp only [vm_s8]; decide)]; exact hR
        have dM2 : vm_LD ℓ I2 := dM.fr hF2 (fun a h1 h2 h3 => by simp only [vm_s8] at h3; omega)
        refine mm_bifeq ?_ ?_
        · intro h37
          refine mm_wv (vb_i 0) rfl (by decide) ?_
          refine mm_w1 rfl ?_
          rw [show ∀ z : Int32, z ||| vb_i 0 = z from fun z => by rw [show (vb_i 0 : Int32) = 0 from rfl, Int32.or_zero]]
          refine mm_w1 (ls' := [_, _, _, _, _]) rfl ?_
          refine mm_nincL (ls' := [_, _, _, _, _]) 1 rfl (by decide) rfl ?_
          refine mm_wgoto ?_
          have ih := ih (by omega) _ hF2
          first
            | (rw [vb_set_s0 (p := (fun v => vb_has (vx_s x sd) v && !(vb_tk ℓ (vx_s x sd) (vx_s x (1 - sd)) v (vb_i (vx_e x)) == 0))) (by show (vb_has (vx_s x sd) i && _) = false; rw [show vb_has (vx_s x sd) i = false by rw [← vx_in_dec hsj hs]; exact decide_eq_false h27]; rfl)] at ih; exact ih)
            | (rw [vb_set_s1 (p := (fun v => vb_has (vx_s x sd) v && !(vb_tk ℓ (vx_s x sd) (vx_s x (1 - sd)) v (vb_i (vx_e x)) == 0))) (by show (vb_has (vx_s x sd) i && _) = true; rw [(vx_in_eq hsj hs).mp h27, h37]; rfl)] at ih; exact ih)
            | (rw [vb_set_s0 (p := (fun v => vb_has (vx_s x sd) v && !(vb_tk ℓ (vx_s x sd) (vx_s x (1 - sd)) v (vb_i (vx_e x)) == 0))) (by show (vb_has (vx_s x sd) i && _) = false; rw [(vx_in_eq hsj hs).mp h27, h37]; rfl)] at ih; exact ih)
        · intro h37
          refine mm_wv (vb_i 1) rfl (by decide) ?_
          refine mm_w1 rfl ?_
          refine mm_nbit (by omega) ?_
          refine mm_wgoto ?_
          refine mm_w1 rfl ?_ 
          refine mm_w1 (ls' := [_, _, _, _, _]) rfl ?_
          refine mm_nincL (ls' := [_, _, _, _, _]) 1 rfl (by decide) rfl ?_
          refine mm_wgoto ?_
          have ih := ih (by omega) _ hF2
          first
            | (rw [vb_set_s0 (p := (fun v => vb_has (vx_s x sd) v && !(vb_tk ℓ (vx_s x sd) (vx_s x (1 - sd)) v (vb_i (vx_e x)) == 0))) (by show (vb_has (vx_s x sd) i && _) = false; rw [show vb_has (vx_s x sd) i = false by rw [← vx_in_dec hsj hs]; exact decide_eq_false h27]; rfl)] at ih; exact ih)
            | (rw [vb_set_s1 (p := (fun v => vb_has (vx_s x sd) v && !(vb_tk ℓ (vx_s x sd) (vx_s x (1 - sd)) v (vb_i (vx_e x)) == 0))) (by show (vb_has (vx_s x sd) i && _) = true; rw [(vx_in_eq hsj hs).mp h27, h37]; rfl)] at ih; exact ih)
            | (rw [vb_set_s0 (p := (fun v => vb_has (vx_s x sd) v && !(vb_tk ℓ (vx_s x sd) (vx_s x (1 - sd)) v (vb_i (vx_e x)) == 0))) (by show (vb_has (vx_s x sd) i && _) = false; rw [(vx_in_eq hsj hs).mp h27, h37]; rfl)] at ih; exact ih)
    )
  show mm_W _ _ 190 (mm_blk 190 0) [.ref 60, .int (vb_i b), .int (vb_i sd), .null, .null] [] _ _
  refine mm_wv (vb_i 0) rfl (by decide) ?_
  refine mm_w1 (ls' := [_, _, _, _, _]) rfl ?_
  refine mm_wv (vb_i 0) rfl (by decide) ?_
  refine mm_w1 (ls' := [_, _, _, _, _]) rfl ?_
  exact loop 0 (by omega) I hF
theorem m_moves {sd : Nat} (hM : vm_isM P S) (dM : vm_LD ℓ I) (hR : vm_row ℓ (I 76) b x t) (hb : b + 46 ≤ 276) (hli : vl_inv ℓ) (hlb : vl_bel ℓ) (hsj : vx_dj (vx_s x)) (hfj : vx_dj (vx_f x)) (hst : vx_ws x) (hd : 4 ≤ d) (hs : sd < 2) : mm_C G d 192 [.ref 60, .int (vb_i b), .int (vb_i sd)] (I, P, J, S, nc, ns) (vb_R (some (.int (vb_i (vx_msT ℓ x sd).length))) (fun I' => vb_fr vm_s8 I I') P J S nc ns) := by
  have hn := vm_10 dM
  have ht := vm_r2 hR
  have he := vm_e2 hR
  have hF : vb_fr vm_s8 I I := vb_fr.rf
  have loop := vb_down (p := fun i => ∀ (I1 : Nat → Nat → Int32) (c : Nat), vb_fr vm_s8 I I1 → c ≤ i → c + (vb_rs (vb_q ℓ (vx_s x sd) (vx_s x (1 - sd)) (vb_i (vx_e x))) i).length = (vx_msT ℓ x sd).length → mm_W G d 192 (mm_blk 192 5) [.ref 60, .int (vb_i b), .int (vb_i sd), .int (vb_i c), .int (vb_i i)] [] (I1, P, J, S, nc, ns) (vb_R (some (.int (vb_i (vx_msT ℓ x sd).length))) (fun I' => vb_fr vm_s8 I I') P J S nc ns)) 100 (by
    intro i hi ih I1 c hF1 hci heq
    have hR1 : vm_row ℓ (I1 76) b x t := by rw [hF1 76 (by simp only [vm_s8]; decide)]; exact hR
    have dM1 : vm_LD ℓ I1 := dM.fr hF1 (fun a h1 h2 h3 => by simp only [vm_s8] at h3; omega)
    refine mm_w1 rfl ?_
    refine mm_wv (vb_i 100) rfl (by decide) ?_
    refine mm_nicge (by omega) (by omega) ?_ ?_
    · intro h9
      refine mm_w1 rfl ?_
      refine mm_wr rfl rfl rfl ?_
      refine ⟨_, hF1, ?_⟩
      rw [vb_rs_end (by omega)] at heq
      rw [← heq]; rfl
    · intro h9
      refine mm_w1 rfl ?_
      refine mm_w1 rfl ?_
      refine mm_w1 rfl ?_
      refine mm_w1 rfl ?_
      refine mm_w1 rfl ?_
      refine mm_cvi (vb_cv (vM_S60 hM) rfl rfl rfl rfl) (by decide) (by omega) (m_mayDo hM dM1 hR1 (by omega) hli hlb hsj hfj hst (by omega) (by omega) (by omega)) ?_
      intro I2 hf2
      have hF2 : vb_fr vm_s8 I I2 := hF1.tr hf2
      have hR2 : vm_row ℓ (I2 76) b x t := by rw [hF2 76 (by simp only [vm_s8]; decide)]; exact hR
      have dM2 : vm_LD ℓ I2 := dM.fr hF2 (fun a h1 h2 h3 => by simp only [vm_s8] at h3; omega)
      have hmay : vm_may ℓ x sd i = (vb_q ℓ (vx_s x sd) (vx_s x (1 - sd)) (vb_i (vx_e x))) i := by rw [vm_may, decide_eq_false (by omega), Bool.false_or]
      rw [hmay]
      rw [vb_rs_cons (by omega)] at heq
      refine mm_bifeq ?_ ?_
      · intro h21
        rw [h21, if_neg (by decide)] at heq
        refine mm_wv (vb_i 0) rfl (by decide) ?_
        refine mm_nadd ?_
        refine mm_w1 (ls' := [_, _, _, _, _]) rfl ?_
        refine mm_nincL (ls' := [_, _, _, _, _]) 1 rfl (by decide) rfl ?_
        refine mm_wgoto ?_
        exact ih (by omega) I2 (c + 0) hF2 (by omega) (by omega)
      · intro h21
        rw [h21, if_pos rfl, List.length_cons] at heq
        refine mm_wv (vb_i 1) rfl (by decide) ?_
        refine mm_wgoto ?_
        refine mm_nadd ?_
        refine mm_w1 (ls' := [_, _, _, _, _]) rfl ?_
        refine mm_nincL (ls' := [_, _, _, _, _]) 1 rfl (by decide) rfl ?_
        refine mm_wgoto ?_
        exact ih (by omega) I2 (c + 1) hF2 (by omega) (by omega) 
    )
  show mm_W _ _ 192 (mm_blk 192 0) [.ref 60, .int (vb_i b), .int (vb_i sd), .null, .null] [] _ _
  refine mm_wv (vb_i 0) rfl (by decide) ?_
  refine mm_w1 (ls' := [_, _, _, _, _]) rfl ?_
  refine mm_wv (vb_i 0) rfl (by decide) ?_
  refine mm_w1 (ls' := [_, _, _, _, _]) rfl ?_
  exact loop 0 (by omega) I 0 hF (by omega) (by rw [Nat.zero_add]; rfl)
/-- a stone off the board -/
def vx_off (x : vb_X) (sd v : Nat) : vb_X := (fun j => if j = sd then vx_s x j &&& ~~~ vb_bit v else vx_s x j, vx_f x, vx_t x, vx_y x, vx_b x, vx_e x)
theorem vx_off_le {sd v j w : Nat} (h : vb_has (vx_s (vx_off x sd v) j) w = true) : vb_has (vx_s x j) w = true := by
  have e : vx_s (vx_off x sd v) j = if j = sd then vx_s x j &&& ~~~ vb_bit v else vx_s x j := rfl
  rw [e] at h
  split at h
  · rw [vb_has_and] at h
    simp only [Bool.and_eq_true] at h
    exact h.1
  · exact h
theorem vx_off_dj (hsj : vx_dj (vx_s x)) (sd v : Nat) : vx_dj (vx_s (vx_off x sd v)) := fun w hw => by
  have h1 := hsj w (vx_off_le hw)
  cases e : vb_has (vx_s (vx_off x sd v) 1) w with
  | false => rfl
  | true => rw [vx_off_le e] at h1; cases h1
theorem vx_off_ws (hst : vx_ws x) (sd v : Nat) : vx_ws (vx_off x sd v) := fun s hs w hw => hst s hs w (vx_off_le hw)
theorem vx_off_in (hsj : vx_dj (vx_s x)) {sd v w : Nat} (hs : sd < 2) (hv : v < 32) (hw : w < 32) (hsd : vx_in (vx_s x) v = sd) : vx_in (vx_s (vx_off x sd v)) w = if w = v then 2 else vx_in (vx_s x) w := by
  have hh := (vx_in_eq hsj hs).mp hsd
  have e : ∀ j, vx_s (vx_off x sd v) j = if j = sd then vx_s x j &&& ~~~ vb_bit v else vx_s x j := fun _ => rfl
  have b1 : vb_has (vb_bit v) w = decide (w = v) := vb_has_bit hv
  have hs2 : sd = 0 ∨ sd = 1 := by omega
  simp only [vx_in, e]
  rcases hs2 with rfl | rfl
  · rw [if_pos rfl, if_neg (by decide : ¬ 1 = 0), vb_has_and, vb_has_not _ hw, b1]
    by_cases h1 : w = v
    · subst h1; rw [hsj w hh, decide_eq_true rfl, if_pos rfl]; simp
    · rw [decide_eq_false h1, if_neg h1]; simp
  · rw [if_pos rfl, if_neg (by decide : ¬ 0 = 1), vb_has_and, vb_has_not _ hw, b1]
    by_cases h1 : w = v
    · subst h1; rw [vb_dis_sw hsj w hh, decide_eq_true rfl, if_pos rfl]; simp
    · rw [decide_eq_false h1, if_neg h1]; simp
theorem m_hang {v : Nat} (hM : vm_isM P S) (dM : vm_LD ℓ I) (hR : vm_row ℓ (I 76) 0 x t) (hli : vl_inv ℓ) (hlb : vl_bel ℓ) (hsj : vx_dj (vx_s x)) (hfj : vx_dj (vx_f x)) (hst : vx_ws x) (hd : 5 ≤ d) (hv : v < vb_n ℓ) : mm_C G d 191 [.ref 60, .int (vb_i v)] (I, P, J, S, nc, ns) (vb_R (some (.int (q_hang ℓ x v))) (fun I' => vb_fr vm_s8 I I') P J S nc ns) := by
  have hn := vm_10 dM
  have ht := vm_r2 hR
  have he := vm_e2 hR
  have hF : vb_fr vm_s8 I I := vb_fr.rf
  have hin := vx_in2 (vx_s x) v
  show mm_W _ _ 191 (mm_blk 191 0) [.ref 60, .int (vb_i v), .null, .null, .null] [] _ _
  refine mm_w1 rfl ?_
  refine mm_wgr (vM_S60 hM) (by decide) (by decide) (vM_P60_38 hM) (vM_a76 hM) ?_
  refine mm_wv (vb_i 0) rfl (by decide) ?_
  refine mm_w1 rfl ?_
  refine mm_nadd ?_
  refine mm_wiav (vb_i (vx_in (vx_s x) v)) (vM_a76 hM) (vM_S76 hM) (by decide) (by omega) (vm_rs hR hv) ?_
  refine mm_w1 (ls' := [_, _, _, _, _]) rfl ?_
  refine mm_w1 rfl ?_
  refine mm_wv (vb_i 2) rfl (by decide) ?_
  refine mm_nicne (by omega) (by omega) ?_ ?_
  · intro h11
    refine mm_w1 rfl ?_
    refine mm_wv (vb_i 0) rfl (by decide) ?_
    refine mm_w1 rfl ?_
    have hs2 : vx_in (vx_s x) v < 2 := by omega
    refine mm_cvi (vb_cv (vM_S60 hM) rfl rfl rfl rfl) (by decide) (by omega) (m_prised hM dM hR (by decide) hli hlb hsj hfj hst (by omega) hs2) ?_
    intro I1 hf1
    have hF1 : vb_fr vm_s8 I I1 := hF.tr hf1
    have hR1 : vm_row ℓ (I1 76) 0 x t := by rw [hF1 76 (by simp only [vm_s8]; decide)]; exact hR
    have dM1 : vm_LD ℓ I1 := dM.fr hF1 (fun a h1 h2 h3 => by simp only [vm_s8] at h3; omega) 
    refine mm_w1 (ls' := [_, _, _, _, _]) rfl ?_
    refine mm_w1 rfl ?_
    refine mm_wgr (vM_S60 hM) (by decide) (by decide) (vM_P60_38 hM) (vM_a76 hM) ?_
    refine mm_wv (vb_i 0) rfl (by decide) ?_
    refine mm_w1 rfl ?_
    refine mm_nadd ?_
    refine mm_wv (vb_i 2) rfl (by decide) ?_
    refine mm_wisN (vM_S76 hM) (by decide) (by omega) ?_
    intro I2 hI2
    have hR2 : vm_row ℓ (I2 76) 0 (vx_off x (vx_in (vx_s x) v) v) t := by
      obtain ⟨h1, h2, h3, h4, h5, h6, h7, h8, h9⟩ := hR1
      rw [hI2]
      refine ⟨?_, ?_, ?_, ?_, ?_, ?_, ?_, h8, h9⟩
      · intro w hw
        rw [vx_off_in hsj hs2 (by omega) (by omega) rfl]
        by_cases e : w = v
        · subst e; rw [if_pos rfl]; exact vb_up1 _ _ _ _
        · rw [if_neg e, vb_up2 _ _ (by omega)]; exact h1 w hw
      · intro w hw; rw [vb_up2 _ _ (by omega)]; exact h2 w hw
      · intro w hw; rw [vb_up2 _ _ (by omega)]; exact h3 w hw
      · intro w hw; rw [vb_up2 _ _ (by omega)]; exact h4 w hw
      · rw [vb_up2 _ _ (by omega)]; exact h5
      · rw [vb_up2 _ _ (by omega)]; exact h6
      · intro w hw; rw [vb_up2 _ _ (by omega)]; exact h7 w hw
    have dM2 : vm_LD ℓ I2 := dM1.k2 (fun s _ _ => by rw [hI2, vb_up3 _ _ (by decide)]) (fun a h1 h2 => by rw [hI2, vb_up3 _ _ (by omega)])
    refine mm_w1 rfl ?_
    refine mm_wv (vb_i 0) rfl (by decide) ?_
    refine mm_w1 rfl ?_
    refine mm_cvi (vb_cv (vM_S60 hM) rfl rfl rfl rfl) (by decide) (by omega) (m_prised (x := vx_off x (vx_in (vx_s x) v) v) hM dM2 hR2 (by decide) hli hlb (vx_off_dj hsj _ _) hfj (vx_off_ws hst _ _) (by omega) hs2) ?_
    intro I3 hf3 
    refine mm_w1 (ls' := [_, _, _, _, _]) rfl ?_
    refine mm_w1 rfl ?_
    refine mm_wgr (vM_S60 hM) (by decide) (by decide) (vM_P60_38 hM) (vM_a76 hM) ?_
    refine mm_wv (vb_i 0) rfl (by decide) ?_
    refine mm_w1 rfl ?_
    refine mm_nadd ?_
    refine mm_w1 rfl ?_
    refine mm_wis (vM_S76 hM) (by decide) (by omega) ?_
    refine mm_w1 rfl ?_
    refine mm_w1 rfl ?_
    refine mm_wv (-1) rfl (by decide) ?_
    refine mm_nnot ?_
    refine mm_w1 rfl ?_
    refine mm_wv (vb_i 1) rfl (by decide) ?_
    refine mm_w1 rfl ?_
    refine mm_nbit (by omega) ?_
    refine mm_wv (-1) rfl (by decide) ?_
    refine mm_nnot ?_
    refine mm_w1 rfl ?_
    refine mm_wr rfl rfl rfl ?_
    refine ⟨mm_up I3 76 (0 + v) (vb_i (vx_in (vx_s x) v)), ?_, ?_⟩
    · intro a ha
      by_cases e : a = 76
      · subst e
        funext j
        by_cases ej : j = 0 + v
        · subst ej; rw [vb_up1]; exact (vm_rs hR hv).symm
        · rw [vb_up2 _ _ (by omega), hf3 76 (by simp only [vm_s8]; decide), hI2, vb_up2 _ _ (by omega), hf1 76 (by simp only [vm_s8]; decide)]
      · rw [vb_up3 _ _ e, hf3 a ha, hI2, vb_up3 _ _ e, hf1 a ha]
    · rw [q_hang, if_neg h11]
      have hnv : vb_has (vb_ep ℓ (vx_s x (vx_in (vx_s x) v) &&& ~~~ vb_bit v) (vx_s x (1 - vx_in (vx_s x) v)) (vb_i (vx_e x))) v = false := by
        rw [vb_ep, vb_has_set _ (by omega), vb_has_and, vb_has_not _ (by omega), vb_has_bit (by omega)]; simp
      have e1 : vx_s (vx_off x (vx_in (vx_s x) v) v) (vx_in (vx_s x) v) = vx_s x (vx_in (vx_s x) v) &&& ~~~ vb_bit v := if_pos rfl
      have e2 : vx_s (vx_off x (vx_in (vx_s x) v) v) (1 - vx_in (vx_s x) v) = vx_s x (1 - vx_in (vx_s x) v) := if_neg (by omega)
      rw [e1, e2]
      have key : ∀ A B : Int32, vb_has A v = false → (A &&& ~~~ B) &&& ~~~ vb_bit v = A &&& ~~~ B := by
        intro A B hA
        apply vb_ext
        intro w hw
        rw [vb_has_and, vb_has_and, vb_has_not _ hw, vb_has_not _ hw, vb_has_bit (by omega)]
        by_cases e : w = v
        · subst e; rw [hA]; simp
        · rw [decide_eq_false e]; simp
      exact congrArg (fun z : Int32 => ((Sum.inl (some (Value.int z)) : Option Value ⊕ Nat), _)) (key _ _ hnv)
  · intro h11
    refine mm_wv (vb_i 0) rfl (by decide) ?_
    refine mm_wr rfl rfl rfl ?_
    refine ⟨_, vb_fr.rf, ?_⟩
    rw [q_hang, if_pos h11]; rfl
end REF6
