section LOOK
variable {G : mm_G} {d : Nat} {I : Nat → Nat → Int32} {P : Nat → Nat → Nat} {J : Nat → Nat → Int64} {S : List (Nat × Nat)} {nc ns : Nat} {μ : mm_M} {ℓ : vb_L} {x : vb_X} {b t : Nat}
/-- what stands for none yet -/
def vm_eb (st : Option (Nat × Int32)) : Int32 := match st with
  | none => vb_i 0
  | some p => p.2
def vm_ew (st : Option (Nat × Int32)) : Int32 := match st with
  | none => -1
  | some p => vb_i p.1
theorem m_look1 (hM : vm_isM P S) (dM : vm_LD ℓ I) (hR : vm_row ℓ (I 76) b x t) (hb : b + 92 ≤ 276) (hli : vl_inv ℓ) (hlb : vl_bel ℓ) (hwf : vx_wf ℓ x) (he : vx_e x + 1 ≤ 2000) (hd : 5 ≤ d) : mm_C G d 210 [.ref 60, .int (vb_i b)] (I, P, J, S, nc, ns) (vb_R (some (.int (vm_ld ℓ x t 1))) (fun I' => vm_lf b I I' ∧ I' 60 43 = vb_i (vm_PK ℓ x t 0).1) P J S nc ns) := by
  have hn := vm_10 dM
  have ht := vm_r2 hR
  have hsj := hwf.sj
  have hfj := hwf.fj
  have hst := hwf.ws
  have hL : vm_lf b I I := vm_lf.rf
  rw [← vm_PK2 ht]
  have loop := vb_down (p := fun i => ∀ (I1 : Nat → Nat → Int32) (yv : Value) (st : Option (Nat × Int32)), vm_lf b I I1 → (∀ p, st = some p → p.1 ≤ 100) → vm_po (fun m => vm_af ℓ x t m 0) (vm_al ℓ x t i) st = some (vm_PK ℓ x t 0) → mm_W G d 210 (mm_blk 210 18) [.ref 60, .int (vb_i b), .int (vb_i t), .int (vm_eb st), .int (vm_ew st), .int (vb_i i), yv] [] (I1, P, J, S, nc, ns) (vb_R (some (.int (vm_PK ℓ x t 0).2)) (fun I' => vm_lf b I I' ∧ I' 60 43 = vb_i (vm_PK ℓ x t 0).1) P J S nc ns)) 101 (by
    intro i hi ih I1 yv st hL1 hp1 hpo
    have hR1 : vm_row ℓ (I1 76) b x t := hR.lf hn hL1
    have dM1 := dM.lf hL1
    refine mm_w1 rfl ?_
    refine mm_wv (vb_i 100) rfl (by decide) ?_
    refine mm_nicgt (by omega) (by omega) ?_ ?_
    · intro h22
      rw [vm_al_end (by omega)] at hpo
      cases st with
      | none => cases hpo
      | some p =>
        have hpp : p = vm_PK ℓ x t 0 := by
          have := Option.some.inj hpo
          exact this
        refine mm_w1 rfl ?_
        refine mm_w1 rfl ?_
        refine mm_wpi (vM_S60 hM) (by decide) (by decide) ?_
        refine mm_w1 rfl ?_
        refine mm_wr rfl rfl rfl ?_
        refine ⟨mm_up I1 60 43 (vb_i p.1), ⟨hL1.tr (vm_lf.bm _), ?_⟩, ?_⟩
        · rw [vb_up1, ← hpp]
        · rw [← hpp]; rfl
    · intro h22
      refine mm_w1 rfl ?_
      refine mm_w1 rfl ?_
      refine mm_w1 rfl ?_
      refine mm_w1 rfl ?_
      refine mm_cvi (vb_cv (vM_S60 hM) rfl rfl rfl rfl) (by decide) (by omega) (m_mayDo hM dM1 hR1 (by omega) hli hlb hsj hfj hst (by omega) (by omega) (by omega)) ?_
      intro I2 hf2
      have hL2 : vm_lf b I I2 := hL1.tr (vm_lf.of8 hf2)
      have hR2 : vm_row ℓ (I2 76) b x t := hR.lf hn hL2
      have dM2 := dM.lf hL2
      refine mm_bifne ?_ ?_
      · intro h33
        rw [vm_al_cons (by omega), h33, if_pos rfl] at hpo
        have hm1 := vm_may_ok1 hn hli hsj ht (by omega) h33
        have hwf2 := hwf.mvT hn ht hm1.mod
        cases st with
        | none =>
          refine mm_w1 rfl ?_
          refine mm_w1 rfl ?_
          refine mm_w1 rfl ?_
          refine mm_wv (vb_i 46) rfl (by decide) ?_
          refine mm_nadd ?_
          refine mm_cvn (vb_cv (vM_S60 hM) rfl rfl rfl rfl) (by decide) (by omega) (m_lays0 hM (by omega) (by omega) (by omega)) ?_
          intro I3 hq3
          obtain ⟨hc3, ho3, hf3⟩ := hq3
          have hL3 : vm_lf b I I3 := hL2.tr (vm_lf.of76 hf3 (fun j hj => ho3 j (by omega)))
          have hR3 : vm_row ℓ (I3 76) b x t := hR.lf hn hL3
          have dM3 := dM.lf hL3
          have hS3 : vm_row ℓ (I3 76) (b + 46) x t := hR2.mv hn hc3
          refine mm_w1 rfl ?_
          refine mm_w1 rfl ?_
          refine mm_wv (vb_i 46) rfl (by decide) ?_
          refine mm_nadd ?_
          refine mm_w1 rfl ?_
          refine mm_cvn (vb_cv (vM_S60 hM) rfl rfl rfl rfl) (by decide) (by omega) (m_does hM dM3 hS3 (by omega) hsj (by omega) hm1 (by omega)) ?_
          intro I4 hq4
          obtain ⟨hS4, ho4, hf4⟩ := hq4
          have hL4 : vm_lf b I I4 := hL3.tr (vm_lf.of76 hf4 (fun j hj => ho4 j (by omega)))
          have hR4 : vm_row ℓ (I4 76) b x t := hR.lf hn hL4
          have dM4 := dM.lf hL4
          refine mm_w1 rfl ?_
          refine mm_w1 rfl ?_
          refine mm_wv (vb_i 46) rfl (by decide) ?_
          refine mm_nadd ?_
          refine mm_w1 rfl ?_
          refine mm_cvp (vb_cv (vM_S60 hM) rfl rfl rfl rfl) (by decide) (by omega) (m_score (sd := t) hM dM4 hS4 (by omega) hwf2.fj (by omega) (by omega)) ?_
          rw [show vb_worth ℓ (vx_f (vx_doT ℓ x t i) t) - vb_worth ℓ (vx_f (vx_doT ℓ x t i) (1 - t)) = vm_af ℓ x t i 0 by rw [vm_af, vm_ld, vb_lead, vb_neg_sub, show 1 - (1 - t) = t by omega]]
          refine mm_w1 (ls' := [_, _, _, _, _, _, _]) rfl ?_
          refine mm_w1 rfl ?_
          refine mm_wv (-1) rfl (by decide) ?_
          refine mm_wiceq (fun _ => ?_) (fun h => absurd rfl h) 
          refine mm_w1 rfl ?_
          refine mm_w1 (ls' := [_, _, _, _, _, _, _]) rfl ?_
          refine mm_w1 rfl ?_
          refine mm_w1 (ls' := [_, _, _, _, _, _, _]) rfl ?_
          refine mm_nincL (ls' := [_, _, _, _, _, _, _]) 1 rfl (by decide) rfl ?_
          refine mm_wgoto ?_
          rw [vm_po_n] at hpo
          exact ih (by omega) _ _ (some (i, (vm_af ℓ x t i 0))) hL4 (fun p h => by cases h; show i ≤ 100; omega) hpo
        | some p =>
          refine mm_w1 rfl ?_
          refine mm_w1 rfl ?_
          refine mm_w1 rfl ?_
          refine mm_wv (vb_i 46) rfl (by decide) ?_
          refine mm_nadd ?_
          refine mm_cvn (vb_cv (vM_S60 hM) rfl rfl rfl rfl) (by decide) (by omega) (m_lays0 hM (by omega) (by omega) (by omega)) ?_
          intro I3 hq3
          obtain ⟨hc3, ho3, hf3⟩ := hq3
          have hL3 : vm_lf b I I3 := hL2.tr (vm_lf.of76 hf3 (fun j hj => ho3 j (by omega)))
          have hR3 : vm_row ℓ (I3 76) b x t := hR.lf hn hL3
          have dM3 := dM.lf hL3
          have hS3 : vm_row ℓ (I3 76) (b + 46) x t := hR2.mv hn hc3
          refine mm_w1 rfl ?_
          refine mm_w1 rfl ?_
          refine mm_wv (vb_i 46) rfl (by decide) ?_
          refine mm_nadd ?_
          refine mm_w1 rfl ?_
          refine mm_cvn (vb_cv (vM_S60 hM) rfl rfl rfl rfl) (by decide) (by omega) (m_does hM dM3 hS3 (by omega) hsj (by omega) hm1 (by omega)) ?_
          intro I4 hq4
          obtain ⟨hS4, ho4, hf4⟩ := hq4
          have hL4 : vm_lf b I I4 := hL3.tr (vm_lf.of76 hf4 (fun j hj => ho4 j (by omega)))
          have hR4 : vm_row ℓ (I4 76) b x t := hR.lf hn hL4
          have dM4 := dM.lf hL4
          refine mm_w1 rfl ?_
          refine mm_w1 rfl ?_
          refine mm_wv (vb_i 46) rfl (by decide) ?_
          refine mm_nadd ?_
          refine mm_w1 rfl ?_
          refine mm_cvp (vb_cv (vM_S60 hM) rfl rfl rfl rfl) (by decide) (by omega) (m_score (sd := t) hM dM4 hS4 (by omega) hwf2.fj (by omega) (by omega)) ?_
          rw [show vb_worth ℓ (vx_f (vx_doT ℓ x t i) t) - vb_worth ℓ (vx_f (vx_doT ℓ x t i) (1 - t)) = vm_af ℓ x t i 0 by rw [vm_af, vm_ld, vb_lead, vb_neg_sub, show 1 - (1 - t) = t by omega]]
          refine mm_w1 (ls' := [_, _, _, _, _, _, _]) rfl ?_
          refine mm_w1 rfl ?_
          refine mm_wv (-1) rfl (by decide) ?_
          refine mm_wiceq (fun h => absurd h (vb_b_m1 p.1 (hp1 p rfl))) (fun _ => ?_) 
          refine mm_w1 rfl ?_
          refine mm_w1 rfl ?_
          refine mm_wicgt ?_ ?_
          · intro h78
            refine mm_w1 rfl ?_
            refine mm_w1 (ls' := [_, _, _, _, _, _, _]) rfl ?_
            refine mm_w1 rfl ?_
            refine mm_w1 (ls' := [_, _, _, _, _, _, _]) rfl ?_
            refine mm_nincL (ls' := [_, _, _, _, _, _, _]) 1 rfl (by decide) rfl ?_
            refine mm_wgoto ?_
            rw [vm_po_s] at hpo
            first
              | (have h9 : p.2 < (vm_af ℓ x t i 0) := h78
                 rw [if_pos h9] at hpo; exact ih (by omega) _ _ (some (i, (vm_af ℓ x t i 0))) hL4 (fun p h => by cases h; show i ≤ 100; omega) hpo)
              | (have h9 : ¬ p.2 < (vm_af ℓ x t i 0) := h78
                 rw [if_neg h9] at hpo; exact ih (by omega) _ _ (some p) hL4 hp1 hpo)
          · intro h78
            refine mm_wgoto ?_
            refine mm_nincL (ls' := [_, _, _, _, _, _, _]) 1 rfl (by decide) rfl ?_
            refine mm_wgoto ?_
            rw [vm_po_s] at hpo
            first
              | (have h9 : p.2 < (vm_af ℓ x t i 0) := h78
                 rw [if_pos h9] at hpo; exact ih (by omega) _ _ (some (i, (vm_af ℓ x t i 0))) hL4 (fun p h => by cases h; show i ≤ 100; omega) hpo)
              | (have h9 : ¬ p.2 < (vm_af ℓ x t i 0) := h78
                 rw [if_neg h9] at hpo; exact ih (by omega) _ _ (some p) hL4 hp1 hpo)
      · intro h33
        rw [vm_al_cons (by omega), h33, if_neg (by decide)] at hpo
        refine mm_wgoto ?_
        refine mm_nincL (ls' := [_, _, _, _, _, _, _]) 1 rfl (by decide) rfl ?_
        refine mm_wgoto ?_
        exact ih (by omega) I2 _ st hL2 hp1 hpo  
    )
  show mm_W _ _ 210 (mm_blk 210 0) [.ref 60, .int (vb_i b), .null, .null, .null, .null, .null] [] _ _
  refine mm_w1 rfl ?_
  refine mm_wgr (vM_S60 hM) (by decide) (by decide) (vM_P60_38 hM) (vM_a76 hM) ?_
  refine mm_w1 rfl ?_
  refine mm_wv (vb_i 43) rfl (by decide) ?_
  refine mm_nadd ?_
  refine mm_wiav _ (vM_a76 hM) (vM_S76 hM) (by decide) (by omega) (vm_ru hR) ?_
  refine mm_w1 (ls' := [_, _, _, _, _, _, _]) rfl ?_
  refine mm_wv (vb_i 0) rfl (by decide) ?_
  refine mm_w1 (ls' := [_, _, _, _, _, _, _]) rfl ?_
  refine mm_wv (-1) rfl (by decide) ?_
  refine mm_w1 (ls' := [_, _, _, _, _, _, _]) rfl ?_
  refine mm_wv (vb_i 0) rfl (by decide) ?_
  refine mm_w1 (ls' := [_, _, _, _, _, _, _]) rfl ?_
  exact loop 0 (by omega) I _ none hL (fun p h => by cases h) vm_po_PK
theorem m_look2 (hM : vm_isM P S) (dM : vm_LD ℓ I) (hR : vm_row ℓ (I 76) b x t) (hb : b + 138 ≤ 276) (hli : vl_inv ℓ) (hlb : vl_bel ℓ) (hwf : vx_wf ℓ x) (he : vx_e x + 2 ≤ 2000) (hd : 6 ≤ d) : mm_C G d 211 [.ref 60, .int (vb_i b)] (I, P, J, S, nc, ns) (vb_R (some (.int (vm_ld ℓ x t 2))) (fun I' => vm_lf b I I' ∧ I' 60 43 = vb_i (vm_PK ℓ x t 1).1) P J S nc ns) := by
  have hn := vm_10 dM
  have ht := vm_r2 hR
  have hsj := hwf.sj
  have hfj := hwf.fj
  have hst := hwf.ws
  have hL : vm_lf b I I := vm_lf.rf
  rw [← vm_PK2 ht]
  have loop := vb_down (p := fun i => ∀ (I1 : Nat → Nat → Int32) (yv : Value) (st : Option (Nat × Int32)), vm_lf b I I1 → (∀ p, st = some p → p.1 ≤ 100) → vm_po (fun m => vm_af ℓ x t m 1) (vm_al ℓ x t i) st = some (vm_PK ℓ x t 1) → mm_W G d 211 (mm_blk 211 7) [.ref 60, .int (vb_i b), .int (vm_eb st), .int (vm_ew st), .int (vb_i i), yv] [] (I1, P, J, S, nc, ns) (vb_R (some (.int (vm_PK ℓ x t 1).2)) (fun I' => vm_lf b I I' ∧ I' 60 43 = vb_i (vm_PK ℓ x t 1).1) P J S nc ns)) 101 (by
    intro i hi ih I1 yv st hL1 hp1 hpo
    have hR1 : vm_row ℓ (I1 76) b x t := hR.lf hn hL1
    have dM1 := dM.lf hL1
    refine mm_w1 rfl ?_
    refine mm_wv (vb_i 100) rfl (by decide) ?_
    refine mm_nicgt (by omega) (by omega) ?_ ?_
    · intro h11
      rw [vm_al_end (by omega)] at hpo
      cases st with
      | none => cases hpo
      | some p =>
        have hpp : p = vm_PK ℓ x t 1 := by
          have := Option.some.inj hpo
          exact this
        refine mm_w1 rfl ?_
        refine mm_w1 rfl ?_
        refine mm_wpi (vM_S60 hM) (by decide) (by decide) ?_
        refine mm_w1 rfl ?_
        refine mm_wr rfl rfl rfl ?_
        refine ⟨mm_up I1 60 43 (vb_i p.1), ⟨hL1.tr (vm_lf.bm _), ?_⟩, ?_⟩
        · rw [vb_up1, ← hpp]
        · rw [← hpp]; rfl
    · intro h11
      refine mm_w1 rfl ?_
      refine mm_w1 rfl ?_
      refine mm_w1 rfl ?_
      refine mm_w1 rfl ?_
      refine mm_wgr (vM_S60 hM) (by decide) (by decide) (vM_P60_38 hM) (vM_a76 hM) ?_
      refine mm_w1 rfl ?_
      refine mm_wv (vb_i 43) rfl (by decide) ?_
      refine mm_nadd ?_
      refine mm_wiav _ (vM_a76 hM) (vM_S76 hM) (by decide) (by omega) (vm_ru hR1) ?_
      refine mm_cvi (vb_cv (vM_S60 hM) rfl rfl rfl rfl) (by decide) (by omega) (m_mayDo hM dM1 hR1 (by omega) hli hlb hsj hfj hst (by omega) (by omega) (by omega)) ?_
      intro I2 hf2
      have hL2 : vm_lf b I I2 := hL1.tr (vm_lf.of8 hf2)
      have hR2 : vm_row ℓ (I2 76) b x t := hR.lf hn hL2
      have dM2 := dM.lf hL2
      refine mm_bifne ?_ ?_
      · intro h30
        rw [vm_al_cons (by omega), h30, if_pos rfl] at hpo
        have hm1 := vm_may_ok1 hn hli hsj ht (by omega) h30
        have hwf2 := hwf.mvT hn ht hm1.mod
        cases st with
        | none =>
          refine mm_w1 rfl ?_
          refine mm_w1 rfl ?_
          refine mm_w1 rfl ?_
          refine mm_wv (vb_i 46) rfl (by decide) ?_
          refine mm_nadd ?_
          refine mm_cvn (vb_cv (vM_S60 hM) rfl rfl rfl rfl) (by decide) (by omega) (m_lays0 hM (by omega) (by omega) (by omega)) ?_
          intro I3 hq3
          obtain ⟨hc3, ho3, hf3⟩ := hq3
          have hL3 : vm_lf b I I3 := hL2.tr (vm_lf.of76 hf3 (fun j hj => ho3 j (by omega)))
          have hR3 : vm_row ℓ (I3 76) b x t := hR.lf hn hL3
          have dM3 := dM.lf hL3
          have hS3 : vm_row ℓ (I3 76) (b + 46) x t := hR2.mv hn hc3
          refine mm_w1 rfl ?_
          refine mm_w1 rfl ?_
          refine mm_wv (vb_i 46) rfl (by decide) ?_
          refine mm_nadd ?_
          refine mm_w1 rfl ?_
          refine mm_cvn (vb_cv (vM_S60 hM) rfl rfl rfl rfl) (by decide) (by omega) (m_does hM dM3 hS3 (by omega) hsj (by omega) hm1 (by omega)) ?_
          intro I4 hq4
          obtain ⟨hS4, ho4, hf4⟩ := hq4
          have hL4 : vm_lf b I I4 := hL3.tr (vm_lf.of76 hf4 (fun j hj => ho4 j (by omega)))
          have hR4 : vm_row ℓ (I4 76) b x t := hR.lf hn hL4
          have dM4 := dM.lf hL4
          refine mm_wv (vb_i 0) rfl (by decide) ?_
          refine mm_w1 rfl ?_
          refine mm_w1 rfl ?_
          refine mm_wv (vb_i 46) rfl (by decide) ?_
          refine mm_nadd ?_
          refine mm_cvi (vb_cv (vM_S60 hM) rfl rfl rfl rfl) (by decide) (by omega) (m_look1 hM dM4 hS4 (by omega) hli hlb hwf2 (by rw [vm_af_e]; omega) (by omega)) ?_
          intro I5 hq5
          obtain ⟨hl5, _⟩ := hq5
          have hL5 : vm_lf b I I5 := hL4.tr (hl5.le (by omega))
          have hR5 : vm_row ℓ (I5 76) b x t := hR.lf hn hL5
          have dM5 := dM.lf hL5
          refine mm_wv (vm_af ℓ x t i 1) rfl (by rw [vm_af, show (vb_i 0 : Int32) = 0 from rfl, Int32.zero_sub]) ?_ 
          refine mm_w1 (ls' := [_, _, _, _, _, _]) rfl ?_
          refine mm_w1 rfl ?_
          refine mm_wv (-1) rfl (by decide) ?_
          refine mm_wiceq (fun _ => ?_) (fun h => absurd rfl h) 
          refine mm_w1 rfl ?_
          refine mm_w1 (ls' := [_, _, _, _, _, _]) rfl ?_
          refine mm_w1 rfl ?_
          refine mm_w1 (ls' := [_, _, _, _, _, _]) rfl ?_
          refine mm_nincL (ls' := [_, _, _, _, _, _]) 1 rfl (by decide) rfl ?_
          refine mm_wgoto ?_
          rw [vm_po_n] at hpo
          exact ih (by omega) _ _ (some (i, (vm_af ℓ x t i 1))) hL5 (fun p h => by cases h; show i ≤ 100; omega) hpo
        | some p =>
          refine mm_w1 rfl ?_
          refine mm_w1 rfl ?_
          refine mm_w1 rfl ?_
          refine mm_wv (vb_i 46) rfl (by decide) ?_
          refine mm_nadd ?_
          refine mm_cvn (vb_cv (vM_S60 hM) rfl rfl rfl rfl) (by decide) (by omega) (m_lays0 hM (by omega) (by omega) (by omega)) ?_
          intro I3 hq3
          obtain ⟨hc3, ho3, hf3⟩ := hq3
          have hL3 : vm_lf b I I3 := hL2.tr (vm_lf.of76 hf3 (fun j hj => ho3 j (by omega)))
          have hR3 : vm_row ℓ (I3 76) b x t := hR.lf hn hL3
          have dM3 := dM.lf hL3
          have hS3 : vm_row ℓ (I3 76) (b + 46) x t := hR2.mv hn hc3
          refine mm_w1 rfl ?_
          refine mm_w1 rfl ?_
          refine mm_wv (vb_i 46) rfl (by decide) ?_
          refine mm_nadd ?_
          refine mm_w1 rfl ?_
          refine mm_cvn (vb_cv (vM_S60 hM) rfl rfl rfl rfl) (by decide) (by omega) (m_does hM dM3 hS3 (by omega) hsj (by omega) hm1 (by omega)) ?_
          intro I4 hq4
          obtain ⟨hS4, ho4, hf4⟩ := hq4
          have hL4 : vm_lf b I I4 := hL3.tr (vm_lf.of76 hf4 (fun j hj => ho4 j (by omega)))
          have hR4 : vm_row ℓ (I4 76) b x t := hR.lf hn hL4
          have dM4 := dM.lf hL4
          refine mm_wv (vb_i 0) rfl (by decide) ?_
          refine mm_w1 rfl ?_
          refine mm_w1 rfl ?_
          refine mm_wv (vb_i 46) rfl (by decide) ?_
          refine mm_nadd ?_
          refine mm_cvi (vb_cv (vM_S60 hM) rfl rfl rfl rfl) (by decide) (by omega) (m_look1 hM dM4 hS4 (by omega) hli hlb hwf2 (by rw [vm_af_e]; omega) (by omega)) ?_
          intro I5 hq5
          obtain ⟨hl5, _⟩ := hq5
          have hL5 : vm_lf b I I5 := hL4.tr (hl5.le (by omega))
          have hR5 : vm_row ℓ (I5 76) b x t := hR.lf hn hL5
          have dM5 := dM.lf hL5
          refine mm_wv (vm_af ℓ x t i 1) rfl (by rw [vm_af, show (vb_i 0 : Int32) = 0 from rfl, Int32.zero_sub]) ?_ 
          refine mm_w1 (ls' := [_, _, _, _, _, _]) rfl ?_
          refine mm_w1 rfl ?_
          refine mm_wv (-1) rfl (by decide) ?_
          refine mm_wiceq (fun h => absurd h (vb_b_m1 p.1 (hp1 p rfl))) (fun _ => ?_) 
          refine mm_w1 rfl ?_
          refine mm_w1 rfl ?_
          refine mm_wicgt ?_ ?_
          · intro h75
            refine mm_w1 rfl ?_
            refine mm_w1 (ls' := [_, _, _, _, _, _]) rfl ?_
            refine mm_w1 rfl ?_
            refine mm_w1 (ls' := [_, _, _, _, _, _]) rfl ?_
            refine mm_nincL (ls' := [_, _, _, _, _, _]) 1 rfl (by decide) rfl ?_
            refine mm_wgoto ?_
            rw [vm_po_s] at hpo
            first
              | (have h9 : p.2 < (vm_af ℓ x t i 1) := h75
                 rw [if_pos h9] at hpo; exact ih (by omega) _ _ (some (i, (vm_af ℓ x t i 1))) hL5 (fun p h => by cases h; show i ≤ 100; omega) hpo)
              | (have h9 : ¬ p.2 < (vm_af ℓ x t i 1) := h75
                 rw [if_neg h9] at hpo; exact ih (by omega) _ _ (some p) hL5 hp1 hpo)
          · intro h75
            refine mm_wgoto ?_
            refine mm_nincL (ls' := [_, _, _, _, _, _]) 1 rfl (by decide) rfl ?_
            refine mm_wgoto ?_
            rw [vm_po_s] at hpo
            first
              | (have h9 : p.2 < (vm_af ℓ x t i 1) := h75
                 rw [if_pos h9] at hpo; exact ih (by omega) _ _ (some (i, (vm_af ℓ x t i 1))) hL5 (fun p h => by cases h; show i ≤ 100; omega) hpo)
              | (have h9 : ¬ p.2 < (vm_af ℓ x t i 1) := h75
                 rw [if_neg h9] at hpo; exact ih (by omega) _ _ (some p) hL5 hp1 hpo)
      · intro h30
        rw [vm_al_cons (by omega), h30, if_neg (by decide)] at hpo
        refine mm_wgoto ?_
        refine mm_nincL (ls' := [_, _, _, _, _, _]) 1 rfl (by decide) rfl ?_
        refine mm_wgoto ?_
        exact ih (by omega) I2 _ st hL2 hp1 hpo  
    )
  show mm_W _ _ 211 (mm_blk 211 0) [.ref 60, .int (vb_i b), .null, .null, .null, .null] [] _ _
  refine mm_wv (vb_i 0) rfl (by decide) ?_
  refine mm_w1 (ls' := [_, _, _, _, _, _]) rfl ?_
  refine mm_wv (-1) rfl (by decide) ?_
  refine mm_w1 (ls' := [_, _, _, _, _, _]) rfl ?_
  refine mm_wv (vb_i 0) rfl (by decide) ?_
  refine mm_w1 (ls' := [_, _, _, _, _, _]) rfl ?_
  exact loop 0 (by omega) I _ none hL (fun p h => by cases h) vm_po_PK
theorem m_look3 (hM : vm_isM P S) (dM : vm_LD ℓ I) (hR : vm_row ℓ (I 76) b x t) (hb : b + 184 ≤ 276) (hli : vl_inv ℓ) (hlb : vl_bel ℓ) (hwf : vx_wf ℓ x) (he : vx_e x + 3 ≤ 2000) (hd : 7 ≤ d) : mm_C G d 212 [.ref 60, .int (vb_i b)] (I, P, J, S, nc, ns) (vb_R (some (.int (vm_ld ℓ x t 3))) (fun I' => vm_lf b I I' ∧ I' 60 43 = vb_i (vm_PK ℓ x t 2).1) P J S nc ns) := by
  have hn := vm_10 dM
  have ht := vm_r2 hR
  have hsj := hwf.sj
  have hfj := hwf.fj
  have hst := hwf.ws
  have hL : vm_lf b I I := vm_lf.rf
  rw [← vm_PK2 ht]
  have loop := vb_down (p := fun i => ∀ (I1 : Nat → Nat → Int32) (yv : Value) (st : Option (Nat × Int32)), vm_lf b I I1 → (∀ p, st = some p → p.1 ≤ 100) → vm_po (fun m => vm_af ℓ x t m 2) (vm_al ℓ x t i) st = some (vm_PK ℓ x t 2) → mm_W G d 212 (mm_blk 212 7) [.ref 60, .int (vb_i b), .int (vm_eb st), .int (vm_ew st), .int (vb_i i), yv] [] (I1, P, J, S, nc, ns) (vb_R (some (.int (vm_PK ℓ x t 2).2)) (fun I' => vm_lf b I I' ∧ I' 60 43 = vb_i (vm_PK ℓ x t 2).1) P J S nc ns)) 101 (by
    intro i hi ih I1 yv st hL1 hp1 hpo
    have hR1 : vm_row ℓ (I1 76) b x t := hR.lf hn hL1
    have dM1 := dM.lf hL1
    refine mm_w1 rfl ?_
    refine mm_wv (vb_i 100) rfl (by decide) ?_
    refine mm_nicgt (by omega) (by omega) ?_ ?_
    · intro h11
      rw [vm_al_end (by omega)] at hpo
      cases st with
      | none => cases hpo
      | some p =>
        have hpp : p = vm_PK ℓ x t 2 := by
          have := Option.some.inj hpo
          exact this
        refine mm_w1 rfl ?_
        refine mm_w1 rfl ?_
        refine mm_wpi (vM_S60 hM) (by decide) (by decide) ?_
        refine mm_w1 rfl ?_
        refine mm_wr rfl rfl rfl ?_
        refine ⟨mm_up I1 60 43 (vb_i p.1), ⟨hL1.tr (vm_lf.bm _), ?_⟩, ?_⟩
        · rw [vb_up1, ← hpp]
        · rw [← hpp]; rfl
    · intro h11
      refine mm_w1 rfl ?_
      refine mm_w1 rfl ?_
      refine mm_w1 rfl ?_
      refine mm_w1 rfl ?_
      refine mm_wgr (vM_S60 hM) (by decide) (by decide) (vM_P60_38 hM) (vM_a76 hM) ?_
      refine mm_w1 rfl ?_
      refine mm_wv (vb_i 43) rfl (by decide) ?_
      refine mm_nadd ?_
      refine mm_wiav _ (vM_a76 hM) (vM_S76 hM) (by decide) (by omega) (vm_ru hR1) ?_
      refine mm_cvi (vb_cv (vM_S60 hM) rfl rfl rfl rfl) (by decide) (by omega) (m_mayDo hM dM1 hR1 (by omega) hli hlb hsj hfj hst (by omega) (by omega) (by omega)) ?_
      intro I2 hf2
      have hL2 : vm_lf b I I2 := hL1.tr (vm_lf.of8 hf2)
      have hR2 : vm_row ℓ (I2 76) b x t := hR.lf hn hL2
      have dM2 := dM.lf hL2
      refine mm_bifne ?_ ?_
      · intro h30
        rw [vm_al_cons (by omega), h30, if_pos rfl] at hpo
        have hm1 := vm_may_ok1 hn hli hsj ht (by omega) h30
        have hwf2 := hwf.mvT hn ht hm1.mod
        cases st with
        | none =>
          refine mm_w1 rfl ?_
          refine mm_w1 rfl ?_
          refine mm_w1 rfl ?_
          refine mm_wv (vb_i 46) rfl (by decide) ?_
          refine mm_nadd ?_
          refine mm_cvn (vb_cv (vM_S60 hM) rfl rfl rfl rfl) (by decide) (by omega) (m_lays0 hM (by omega) (by omega) (by omega)) ?_
          intro I3 hq3
          obtain ⟨hc3, ho3, hf3⟩ := hq3
          have hL3 : vm_lf b I I3 := hL2.tr (vm_lf.of76 hf3 (fun j hj => ho3 j (by omega)))
          have hR3 : vm_row ℓ (I3 76) b x t := hR.lf hn hL3
          have dM3 := dM.lf hL3
          have hS3 : vm_row ℓ (I3 76) (b + 46) x t := hR2.mv hn hc3
          refine mm_w1 rfl ?_
          refine mm_w1 rfl ?_
          refine mm_wv (vb_i 46) rfl (by decide) ?_
          refine mm_nadd ?_
          refine mm_w1 rfl ?_
          refine mm_cvn (vb_cv (vM_S60 hM) rfl rfl rfl rfl) (by decide) (by omega) (m_does hM dM3 hS3 (by omega) hsj (by omega) hm1 (by omega)) ?_
          intro I4 hq4
          obtain ⟨hS4, ho4, hf4⟩ := hq4
          have hL4 : vm_lf b I I4 := hL3.tr (vm_lf.of76 hf4 (fun j hj => ho4 j (by omega)))
          have hR4 : vm_row ℓ (I4 76) b x t := hR.lf hn hL4
          have dM4 := dM.lf hL4
          refine mm_wv (vb_i 0) rfl (by decide) ?_
          refine mm_w1 rfl ?_
          refine mm_w1 rfl ?_
          refine mm_wv (vb_i 46) rfl (by decide) ?_
          refine mm_nadd ?_
          refine mm_cvi (vb_cv (vM_S60 hM) rfl rfl rfl rfl) (by decide) (by omega) (m_look2 hM dM4 hS4 (by omega) hli hlb hwf2 (by rw [vm_af_e]; omega) (by omega)) ?_
          intro I5 hq5
          obtain ⟨hl5, _⟩ := hq5
          have hL5 : vm_lf b I I5 := hL4.tr (hl5.le (by omega))
          have hR5 : vm_row ℓ (I5 76) b x t := hR.lf hn hL5
          have dM5 := dM.lf hL5
          refine mm_wv (vm_af ℓ x t i 2) rfl (by rw [vm_af, show (vb_i 0 : Int32) = 0 from rfl, Int32.zero_sub]) ?_ 
          refine mm_w1 (ls' := [_, _, _, _, _, _]) rfl ?_
          refine mm_w1 rfl ?_
          refine mm_wv (-1) rfl (by decide) ?_
          refine mm_wiceq (fun _ => ?_) (fun h => absurd rfl h) 
          refine mm_w1 rfl ?_
          refine mm_w1 (ls' := [_, _, _, _, _, _]) rfl ?_
          refine mm_w1 rfl ?_
          refine mm_w1 (ls' := [_, _, _, _, _, _]) rfl ?_
          refine mm_nincL (ls' := [_, _, _, _, _, _]) 1 rfl (by decide) rfl ?_
          refine mm_wgoto ?_
          rw [vm_po_n] at hpo
          exact ih (by omega) _ _ (some (i, (vm_af ℓ x t i 2))) hL5 (fun p h => by cases h; show i ≤ 100; omega) hpo
        | some p =>
          refine mm_w1 rfl ?_
          refine mm_w1 rfl ?_
          refine mm_w1 rfl ?_
          refine mm_wv (vb_i 46) rfl (by decide) ?_
          refine mm_nadd ?_
          refine mm_cvn (vb_cv (vM_S60 hM) rfl rfl rfl rfl) (by decide) (by omega) (m_lays0 hM (by omega) (by omega) (by omega)) ?_
          intro I3 hq3
          obtain ⟨hc3, ho3, hf3⟩ := hq3
          have hL3 : vm_lf b I I3 := hL2.tr (vm_lf.of76 hf3 (fun j hj => ho3 j (by omega)))
          have hR3 : vm_row ℓ (I3 76) b x t := hR.lf hn hL3
          have dM3 := dM.lf hL3
          have hS3 : vm_row ℓ (I3 76) (b + 46) x t := hR2.mv hn hc3
          refine mm_w1 rfl ?_
          refine mm_w1 rfl ?_
          refine mm_wv (vb_i 46) rfl (by decide) ?_
          refine mm_nadd ?_
          refine mm_w1 rfl ?_
          refine mm_cvn (vb_cv (vM_S60 hM) rfl rfl rfl rfl) (by decide) (by omega) (m_does hM dM3 hS3 (by omega) hsj (by omega) hm1 (by omega)) ?_
          intro I4 hq4
          obtain ⟨hS4, ho4, hf4⟩ := hq4
          have hL4 : vm_lf b I I4 := hL3.tr (vm_lf.of76 hf4 (fun j hj => ho4 j (by omega)))
          have hR4 : vm_row ℓ (I4 76) b x t := hR.lf hn hL4
          have dM4 := dM.lf hL4
          refine mm_wv (vb_i 0) rfl (by decide) ?_
          refine mm_w1 rfl ?_
          refine mm_w1 rfl ?_
          refine mm_wv (vb_i 46) rfl (by decide) ?_
          refine mm_nadd ?_
          refine mm_cvi (vb_cv (vM_S60 hM) rfl rfl rfl rfl) (by decide) (by omega) (m_look2 hM dM4 hS4 (by omega) hli hlb hwf2 (by rw [vm_af_e]; omega) (by omega)) ?_
          intro I5 hq5
          obtain ⟨hl5, _⟩ := hq5
          have hL5 : vm_lf b I I5 := hL4.tr (hl5.le (by omega))
          have hR5 : vm_row ℓ (I5 76) b x t := hR.lf hn hL5
          have dM5 := dM.lf hL5
          refine mm_wv (vm_af ℓ x t i 2) rfl (by rw [vm_af, show (vb_i 0 : Int32) = 0 from rfl, Int32.zero_sub]) ?_ 
          refine mm_w1 (ls' := [_, _, _, _, _, _]) rfl ?_
          refine mm_w1 rfl ?_
          refine mm_wv (-1) rfl (by decide) ?_
          refine mm_wiceq (fun h => absurd h (vb_b_m1 p.1 (hp1 p rfl))) (fun _ => ?_) 
          refine mm_w1 rfl ?_
          refine mm_w1 rfl ?_
          refine mm_wicgt ?_ ?_
          · intro h75
            refine mm_w1 rfl ?_
            refine mm_w1 (ls' := [_, _, _, _, _, _]) rfl ?_
            refine mm_w1 rfl ?_
            refine mm_w1 (ls' := [_, _, _, _, _, _]) rfl ?_
            refine mm_nincL (ls' := [_, _, _, _, _, _]) 1 rfl (by decide) rfl ?_
            refine mm_wgoto ?_
            rw [vm_po_s] at hpo
            first
              | (have h9 : p.2 < (vm_af ℓ x t i 2) := h75
                 rw [if_pos h9] at hpo; exact ih (by omega) _ _ (some (i, (vm_af ℓ x t i 2))) hL5 (fun p h => by cases h; show i ≤ 100; omega) hpo)
              | (have h9 : ¬ p.2 < (vm_af ℓ x t i 2) := h75
                 rw [if_neg h9] at hpo; exact ih (by omega) _ _ (some p) hL5 hp1 hpo)
          · intro h75
            refine mm_wgoto ?_
            refine mm_nincL (ls' := [_, _, _, _, _, _]) 1 rfl (by decide) rfl ?_
            refine mm_wgoto ?_
            rw [vm_po_s] at hpo
            first
              | (have h9 : p.2 < (vm_af ℓ x t i 2) := h75
                 rw [if_pos h9] at hpo; exact ih (by omega) _ _ (some (i, (vm_af ℓ x t i 2))) hL5 (fun p h => by cases h; show i ≤ 100; omega) hpo)
              | (have h9 : ¬ p.2 < (vm_af ℓ x t i 2) := h75
                 rw [if_neg h9] at hpo; exact ih (by omega) _ _ (some p) hL5 hp1 hpo)
      · intro h30
        rw [vm_al_cons (by omega), h30, if_neg (by decide)] at hpo
        refine mm_wgoto ?_
        refine mm_nincL (ls' := [_, _, _, _, _, _]) 1 rfl (by decide) rfl ?_
        refine mm_wgoto ?_
        exact ih (by omega) I2 _ st hL2 hp1 hpo  
    )
  show mm_W _ _ 212 (mm_blk 212 0) [.ref 60, .int (vb_i b), .null, .null, .null, .null] [] _ _
  refine mm_wv (vb_i 0) rfl (by decide) ?_
  refine mm_w1 (ls' := [_, _, _, _, _, _]) rfl ?_
  refine mm_wv (-1) rfl (by decide) ?_
  refine mm_w1 (ls' := [_, _, _, _, _, _]) rfl ?_
  refine mm_wv (vb_i 0) rfl (by decide) ?_
  refine mm_w1 (ls' := [_, _, _, _, _, _]) rfl ?_
  exact loop 0 (by omega) I _ none hL (fun p h => by cases h) vm_po_PK
theorem m_ans {m : Nat} (hM : vm_isM P S) (dM : vm_LD ℓ I) (hR : vm_row ℓ (I 76) b x t) (hb : b + 138 ≤ 276) (hli : vl_inv ℓ) (hlb : vl_bel ℓ) (hwf : vx_wf ℓ x) (hm1 : vm_ok1 ℓ x t m) (he : vx_e x + 2 ≤ 2000) (hd : 6 ≤ d) : mm_C G d 231 [.ref 60, .int (vb_i b), .int (vb_i m)] (I, P, J, S, nc, ns) (vb_R (some (.int (vm_af ℓ x t m 1))) (fun I' => vm_lf b I I') P J S nc ns) := by
  have hn := vm_10 dM
  have ht := vm_r2 hR
  have hsj := hwf.sj
  have hfj := hwf.fj
  have hst := hwf.ws
  have hL : vm_lf b I I := vm_lf.rf
  have hwf2 := hwf.mvT hn ht hm1.mod
  show mm_W _ _ 231 (mm_blk 231 0) [.ref 60, .int (vb_i b), .int (vb_i m)] [] _ _
  refine mm_w1 rfl ?_
  refine mm_w1 rfl ?_
  refine mm_w1 rfl ?_
  refine mm_wv (vb_i 46) rfl (by decide) ?_
  refine mm_nadd ?_
  refine mm_cvn (vb_cv (vM_S60 hM) rfl rfl rfl rfl) (by decide) (by omega) (m_lays0 hM (by omega) (by omega) (by omega)) ?_
  intro I1 hq1
  obtain ⟨hc1, ho1, hf1⟩ := hq1
  have hL1 : vm_lf b I I1 := hL.tr (vm_lf.of76 hf1 (fun j hj => ho1 j (by omega)))
  have hR1 : vm_row ℓ (I1 76) b x t := hR.lf hn hL1
  have dM1 := dM.lf hL1
  have hS1 : vm_row ℓ (I1 76) (b + 46) x t := hR.mv hn hc1
  refine mm_w1 rfl ?_
  refine mm_w1 rfl ?_
  refine mm_wv (vb_i 46) rfl (by decide) ?_
  refine mm_nadd ?_
  refine mm_w1 rfl ?_
  refine mm_cvn (vb_cv (vM_S60 hM) rfl rfl rfl rfl) (by decide) (by omega) (m_does hM dM1 hS1 (by omega) hsj (by omega) hm1 (by omega)) ?_
  intro I2 hq2
  obtain ⟨hS2, ho2, hf2⟩ := hq2
  have hL2 : vm_lf b I I2 := hL1.tr (vm_lf.of76 hf2 (fun j hj => ho2 j (by omega)))
  have hR2 : vm_row ℓ (I2 76) b x t := hR.lf hn hL2
  have dM2 := dM.lf hL2
  refine mm_wv (vb_i 0) rfl (by decide) ?_
  refine mm_w1 rfl ?_
  refine mm_w1 rfl ?_
  refine mm_wv (vb_i 46) rfl (by decide) ?_
  refine mm_nadd ?_
  refine mm_cvi (vb_cv (vM_S60 hM) rfl rfl rfl rfl) (by decide) (by omega) (m_look1 hM dM2 hS2 (by omega) hli hlb hwf2 (by rw [vm_af_e]; omega) (by omega)) ?_
  intro I3 hq3
  obtain ⟨hl3, _⟩ := hq3
  have hL3 : vm_lf b I I3 := hL2.tr (hl3.le (by omega))
  have hR3 : vm_row ℓ (I3 76) b x t := hR.lf hn hL3
  have dM3 := dM.lf hL3
  refine mm_wv (vm_af ℓ x t m 1) rfl (by rw [vm_af, show (vb_i 0 : Int32) = 0 from rfl, Int32.zero_sub]) ?_ 
  refine mm_wr rfl rfl rfl ?_
  exact ⟨_, hL3, rfl⟩
end LOOK
