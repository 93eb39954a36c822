section NREST
variable {G : mm_G} {d : Nat} {I : Nat → Nat → Int32} {P : Nat → Nat → Nat} {J : Nat → Nat → Int64} {S : List (Nat × Nat)} {nc ns : Nat} {μ : mm_M} {σ : vb_St}
theorem n_restore (hM : vm_isM P S) (dN : vm_MD σ I) (hI : vs_inv σ) (hlb : vl_bel (vs_l σ)) (hd : 20 ≤ d) : mm_C G d 248 [.ref 60] (I, P, J, S, nc, ns) (vm_RV (sp_restore σ) (fun I' => vm_MD (st_restore σ) I') P J S nc ns) := by
  obtain ⟨hli, hIx, hIa, hIi⟩ := hI
  obtain ⟨hok, hwf, he9⟩ := hIx
  have hsj := hwf.sj
  have hfj := hwf.fj
  have hst := hwf.ws
  have dM := vmd_l dN
  have hR := vmd_x dN
  have hn := vm_10 dM
  have ht := vx_t2 (vs_x σ)
  have hs3 := vm_sc3 dM
  have him := vmd_im dN
  cases hz : vs_i σ with
  | none =>
    rw [show sp_restore σ = .inl (vb_i 0) by simp only [sp_restore, hz, Option.isSome_none]; rfl, show st_restore σ = σ by simp only [st_restore, hz]]
    show mm_W _ _ 248 (mm_blk 248 0) [.ref 60, .null] [] _ _
    refine mm_w1 rfl ?_
    refine mm_wv (vb_i 0) rfl (by decide) ?_
    refine mm_wpiN (vM_S60 hM) (by decide) (by decide) ?_
    intro I1 hI1
    have hq1 : vm_qf I I1 := by rw [hI1]; exact vm_qf.thr _
    have dN1 := dN.qf hq1
    have dM1 := vmd_l dN1
    have hR1 := vmd_x dN1
    have thr1 : I1 60 0 = vb_i 0 := by rw [hI1, vb_up1]
    refine mm_w1 rfl ?_
    refine mm_wgiv (vb_i 0) (vM_S60 hM) (by decide) (by decide) (by rw [vmd_im dN1, hz]; rfl) ?_
    refine mm_nifne (by decide) (fun h => absurd rfl h) (fun _ => ?_)
    refine mm_wv (vb_i 0) rfl (by decide) ?_
    refine mm_wr rfl rfl rfl ?_
    exact ⟨_, _, rfl, dN1, rfl, thr1⟩
  | some z =>
    obtain ⟨q1, q2, q3, q4, q5⟩ := vmd_i dN z hz
    have hz6 := q5.1
    have hz40 := q4.1
    rw [show sp_restore σ = .inl (vb_i 1) by simp only [sp_restore, hz, Option.isSome_some]; rfl]
    have loop : ∀ i, i ≤ 46 → ∀ (I1 : Nat → Nat → Int32), vm_ig I I1 → I1 60 0 = vb_i 0 → I1 60 40 = vb_i z.2.1.length → I1 60 45 = vb_i z.2.2.length → (∀ j, j < i → I1 76 j = I 83 j) → mm_W G d 248 (mm_blk 248 32) [.ref 60, .int (vb_i i)] [] (I1, P, J, S, nc, ns) (vm_RV (.inl (vb_i 1)) (fun I' => vm_MD (st_restore σ) I') P J S nc ns) := by
      refine vb_down 46 ?_
      intro i hi ih I1 k1 t1 u1 v1 c1
      refine mm_w1 rfl ?_
      refine mm_wv (vb_i 46) rfl (by decide) ?_
      refine mm_nicge (by omega) (by omega) ?_ ?_
      · intro h35
        refine mm_w1 rfl ?_
        refine mm_w1 rfl ?_
        refine mm_wgr (vM_S60 hM) (by decide) (by decide) (vM_P60_53 hM) (vM_a84 hM) ?_
        refine mm_w1 rfl ?_
        refine mm_wgr (vM_S60 hM) (by decide) (by decide) (vM_P60_39 hM) (vM_a77 hM) ?_
        refine mm_cvn (vb_cv (vM_S60 hM) rfl rfl rfl rfl) (by decide) (by omega) (m_cp84 hM) ?_
        intro I2 hq02
        obtain ⟨c2, f2⟩ := hq02 
        refine mm_w1 rfl ?_
        refine mm_w1 rfl ?_
        refine mm_wgr (vM_S60 hM) (by decide) (by decide) (vM_P60_54 hM) (vM_a85 hM) ?_
        refine mm_w1 rfl ?_
        refine mm_wgr (vM_S60 hM) (by decide) (by decide) (vM_P60_46 hM) (vM_a81 hM) ?_
        refine mm_cvn (vb_cv (vM_S60 hM) rfl rfl rfl rfl) (by decide) (by omega) (m_cp85 hM) ?_
        intro I3 hq03
        obtain ⟨c3, f3⟩ := hq03 
        refine mm_wv (vb_i 1) rfl (by decide) ?_
        refine mm_wr rfl rfl rfl ?_
        have e603 : I3 60 = I1 60 := by rw [f3 60 (by decide), f2 60 (by decide)]
        refine ⟨_, _, rfl, vm_ig.re hn dN ⟨fun a h1 h2 h3 h4 => ?_, fun s h1 h2 h3 => ?_⟩ hz (by rw [e603]; exact u1) (by rw [e603]; exact v1) (fun j hj => ?_) (fun j hj => ?_) (fun j hj => ?_), rfl, by rw [e603]; exact t1⟩
        · rw [f3 a h4, f2 a h3]; exact k1.1 a h1 h2 h3 h4
        · rw [e603]; exact k1.2 s h1 h2 h3
        · rw [f3 76 (by decide), f2 76 (by decide)]; exact c1 j (by omega)
        · rw [f3 77 (by decide), c2 j hj, k1.1 84 (by decide) (by decide) (by decide) (by decide)]
        · rw [c3 j hj, f2 85 (by decide), k1.1 85 (by decide) (by decide) (by decide) (by decide)]
      · intro h35
        refine mm_w1 rfl ?_
        refine mm_wgr (vM_S60 hM) (by decide) (by decide) (vM_P60_38 hM) (vM_a76 hM) ?_
        refine mm_w1 rfl ?_
        refine mm_w1 rfl ?_
        refine mm_wgr (vM_S60 hM) (by decide) (by decide) (vM_P60_52 hM) (vM_a83 hM) ?_
        refine mm_w1 rfl ?_
        refine mm_wiav (I 83 i) (vM_a83 hM) (vM_S83 hM) (by decide) (by omega) (by rw [k1.1 83 (by decide) (by decide) (by decide) (by decide)]) ?_
        refine mm_wisN (vM_S76 hM) (by decide) (by omega) ?_
        intro I2 hI2
        have k2 : vm_ig I I2 := ⟨fun a h1 h2 h3 h4 => by rw [hI2, vb_up3 _ _ h2]; exact k1.1 a h1 h2 h3 h4, fun s h1 h2 h3 => by rw [hI2, vb_up3 _ _ (by decide)]; exact k1.2 s h1 h2 h3⟩
        have e602 : I2 60 = I1 60 := by rw [hI2, vb_up3 _ _ (by decide)]
        refine mm_nincL (ls' := [_, _]) 1 rfl (by decide) rfl ?_
        refine mm_wgoto ?_
        refine ih (by omega) _ k2 (by rw [e602]; exact t1) (by rw [e602]; exact u1) (by rw [e602]; exact v1) (fun j hj => ?_)
        by_cases e : j = i
        · rw [e, hI2, vb_up1]
        · rw [hI2, vb_up2 _ _ (by omega)]; exact c1 j (by omega)
    show mm_W _ _ 248 (mm_blk 248 0) [.ref 60, .null] [] _ _
    refine mm_w1 rfl ?_
    refine mm_wv (vb_i 0) rfl (by decide) ?_
    refine mm_wpiN (vM_S60 hM) (by decide) (by decide) ?_
    intro I1 hI1
    have hq1 : vm_qf I I1 := by rw [hI1]; exact vm_qf.thr _
    have dN1 := dN.qf hq1
    have dM1 := vmd_l dN1
    have hR1 := vmd_x dN1
    have thr1 : I1 60 0 = vb_i 0 := by rw [hI1, vb_up1]
    refine mm_w1 rfl ?_
    refine mm_wgiv (vb_i 1) (vM_S60 hM) (by decide) (by decide) (by rw [vmd_im dN1, hz]; rfl) ?_
    refine mm_nifne (by decide) (fun _ => ?_) (fun h => absurd h (by decide))
    refine mm_w1 rfl ?_
    refine mm_w1 rfl ?_
    refine mm_wgiv (vb_i z.2.1.length) (vM_S60 hM) (by decide) (by decide) (by rw [hI1, vb_up2 _ _ (by omega)]; exact q1) ?_
    refine mm_wpiN (vM_S60 hM) (by decide) (by decide) ?_
    intro I2 hI2
    refine mm_w1 rfl ?_
    refine mm_w1 rfl ?_
    refine mm_wgiv (vb_i z.2.2.length) (vM_S60 hM) (by decide) (by decide) (by rw [hI2, vb_up2 _ _ (by omega), hI1, vb_up2 _ _ (by omega)]; exact q2) ?_
    refine mm_wpiN (vM_S60 hM) (by decide) (by decide) ?_
    intro I3 hI3
    refine mm_wv (vb_i 0) rfl (by decide) ?_
    refine mm_w1 (ls' := [_, _]) rfl ?_
    refine loop 0 (by omega) _ ⟨fun a h1 _ _ _ => ?_, fun s h1 h2 h3 => ?_⟩ ?_ ?_ ?_ (fun j h => absurd h (by omega))
    · rw [hI3, vb_up3 _ _ h1, hI2, vb_up3 _ _ h1, hI1, vb_up3 _ _ h1]
    · rw [hI3, vb_up2 _ _ (by omega), hI2, vb_up2 _ _ (by omega), hI1, vb_up2 _ _ (by omega)]
    · rw [hI3, vb_up2 _ _ (by omega), hI2, vb_up2 _ _ (by omega), hI1, vb_up1]
    · rw [hI3, vb_up2 _ _ (by omega), hI2, vb_up1]
    · rw [hI3, vb_up1]
end NREST
