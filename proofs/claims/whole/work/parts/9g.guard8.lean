section NGUARD0
variable {G : mm_G} {d : Nat} {I : Nat → Nat → Int32} {P : Nat → Nat → Nat} {J : Nat → Nat → Int64} {S : List (Nat × Nat)} {nc ns : Nat} {μ : mm_M} {ℓ : vb_L} {x : vb_X} {b t : Nat}
theorem m_takenW {to sd : Nat} (hM : vm_isM P S) (dM : vm_LD ℓ I) (hR : vm_row ℓ (I 76) b x t) (hb : b + 46 ≤ 276) (hli : vl_inv ℓ) (hlb : vl_bel ℓ) (hsj : vx_dj (vx_s x)) (hfj : vx_dj (vx_f x)) (hst : ∀ s, s < 2 → vb_has (vx_s x (1 - s)) to = true → vb_has (vx_f x s) to = false) (hd : 3 ≤ d) (hto : to < vb_n ℓ) (hs : sd < 2) (hsd : vx_in (vx_s x) to = sd) : mm_C G d 189 [.ref 60, .int (vb_i b), .int (vb_i to)] (I, P, J, S, nc, ns) (vb_R (some (.int (vb_b (!(vb_tk ℓ (vx_s x sd) (vx_s x (1 - sd)) to (vb_i (vx_e x)) == 0))))) (fun I' => vb_fr vm_s8 I I') P J S nc ns) := by
  have hn := vm_10 dM
  have ht := vm_r2 hR
  have he := vm_e2 hR
  have hF : vb_fr vm_s8 I I := vb_fr.rf
  have loop := vb_down (p := fun i => ∀ (I1 : Nat → Nat → Int32), vb_fr vm_s8 I I1 → (∀ v, v < i → vm_tkf ℓ x sd to v = false) → mm_W G d 189 (mm_blk 189 2) [.ref 60, .int (vb_i b), .int (vb_i to), .int (vb_i i)] [] (I1, P, J, S, nc, ns) (vb_R (some (.int (vb_b (!(vb_tk ℓ (vx_s x sd) (vx_s x (1 - sd)) to (vb_i (vx_e x)) == 0))))) (fun I' => vb_fr vm_s8 I I') P J S nc ns)) (vb_n ℓ) (by
    intro i hi ih I1 hF1 hno
    have hR1 : vm_row ℓ (I1 76) b x t := by rw [hF1 76 (by simp only [vm_s8]; decide)]; exact hR
    have dM1 : vm_LD ℓ I1 := dM.fr hF1 (fun a h1 h2 h3 => by simp only [vm_s8] at h3; omega)
    have hin := vx_in2 (vx_s x) i
    refine mm_w1 rfl ?_
    refine mm_w1 rfl ?_
    refine mm_wgiv _ (vM_S60 hM) (by decide) (by decide) (vm_n dM1) ?_
    refine mm_nicge (by omega) (by omega) ?_ ?_
    · intro h7
      refine mm_wv (vb_i 0) rfl (by decide) ?_
      refine mm_wr rfl rfl rfl ?_
      refine ⟨_, hF1, ?_⟩
      have hz : vb_tk ℓ (vx_s x sd) (vx_s x (1 - sd)) to (vb_i (vx_e x)) = 0 := by
        rw [vm_tks, vb_set_eq0 (by omega)]
        exact fun v hv => hno v (by omega)
      rw [vb_eqb hz]; rfl
    · intro h7
      refine mm_w1 rfl ?_
      refine mm_wgr (vM_S60 hM) (by decide) (by decide) (vM_P60_38 hM) (vM_a76 hM) ?_
      refine mm_w1 rfl ?_
      refine mm_wv (vb_i 0) rfl (by decide) ?_
      refine mm_nadd ?_
      refine mm_w1 rfl ?_
      refine mm_nadd ?_
      refine mm_wiav _ (vM_a76 hM) (vM_S76 hM) (by decide) (by omega) (vm_rs hR1 (by omega)) ?_
      refine mm_wv (vb_i 1) rfl (by decide) ?_
      refine mm_w1 rfl ?_
      refine mm_wgr (vM_S60 hM) (by decide) (by decide) (vM_P60_38 hM) (vM_a76 hM) ?_
      refine mm_w1 rfl ?_
      refine mm_wv (vb_i 0) rfl (by decide) ?_
      refine mm_nadd ?_
      refine mm_w1 rfl ?_
      refine mm_nadd ?_
      refine mm_wiav (vb_i sd) (vM_a76 hM) (vM_S76 hM) (by decide) (by omega) (by rw [vm_rs hR1 hto, hsd]) ?_
      refine mm_nsub (by omega) ?_
      refine mm_nicne (by omega) (by omega) ?_ ?_
      · intro h32
        refine mm_nincL (ls' := [_, _, _, _]) 1 rfl (by decide) rfl ?_
        refine mm_wgoto ?_
        refine ih (by omega) _ hF1 (fun v hv => ?_)
        by_cases e : v = i
        · subst e
          first
            | exact vm_tk0 hsj hs h32
            | (rw [vm_tk1 hn hli hsj hs hto (by omega) hsd h32] at h42; exact h42)
        · exact hno v (by omega)
      · intro h32
        refine mm_w1 rfl ?_
        refine mm_w1 rfl ?_
        refine mm_w1 rfl ?_
        refine mm_w1 rfl ?_
        refine mm_cvi (vb_cv (vM_S60 hM) rfl rfl rfl rfl) (by decide) (by omega) (m_mayGo hM dM1 hR1 (by omega) hli hlb hsj hfj hst (by omega) (by omega) (by omega)) ?_
        intro I2 hf2
        have hF2 : vb_fr vm_s8 I I2 := hF1.tr hf2
        have hR2 : vm_row ℓ (I2 76) b x t := by rw [hF2 76 (by simp only [vm_s8]; decide)]; exact hR
        have dM2 : vm_LD ℓ I2 := dM.fr hF2 (fun a h1 h2 h3 => by simp only [vm_s8] at h3; omega)
        refine mm_bifeq ?_ ?_
        · intro h42
          refine mm_nincL (ls' := [_, _, _, _]) 1 rfl (by decide) rfl ?_
          refine mm_wgoto ?_
          refine ih (by omega) _ hF2 (fun v hv => ?_)
          by_cases e : v = i
          · subst e
            first
              | exact vm_tk0 hsj hs h32
              | (rw [vm_tk1 hn hli hsj hs hto (by omega) hsd h32] at h42; exact h42)
          · exact hno v (by omega)
        · intro h42
          refine mm_wv (vb_i 1) rfl (by decide) ?_
          refine mm_wr rfl rfl rfl ?_
          rw [vm_tk1 hn hli hsj hs hto (by omega) hsd h32] at h42
          refine ⟨_, hF2, ?_⟩
          have hz : ¬ vb_tk ℓ (vx_s x sd) (vx_s x (1 - sd)) to (vb_i (vx_e x)) = 0 := fun e => by
            rw [vm_tks, vb_set_eq0 (by omega)] at e
            rw [e i (by omega)] at h42; cases h42
          rw [vb_neb hz]; rfl
    )
  show mm_W _ _ 189 (mm_blk 189 0) [.ref 60, .int (vb_i b), .int (vb_i to), .null] [] _ _
  refine mm_wv (vb_i 0) rfl (by decide) ?_
  refine mm_w1 (ls' := [_, _, _, _]) rfl ?_
  exact loop 0 (by omega) I hF (fun v h => absurd h (by omega))
end NGUARD0
