section FORCE
theorem mm_wrb {G : mm_G} {d k : Nat} {is : List mm_I} {ls : List Value} {μ : mm_M} {Q : mm_R → Prop} {t b w : Nat} {c : Int32} {q : Bool} (h : mm_rk k = 2) (hq : Q (.inl (some (.int (vb_b q))), μ)) : mm_W G d k ((.ireturn, t, b, w, c) :: is) ls [.int (vb_b q)] μ Q :=
  mm_wr rfl rfl (by simp only [mm_ret]; rw [if_pos (Or.inr ⟨h, vb_b01 q⟩)]) hq
variable {G : mm_G} {d : Nat} {I : Nat → Nat → Int32} {P : Nat → Nat → Nat} {J : Nat → Nat → Int64} {S : List (Nat × Nat)} {nc ns : Nat} {μ : mm_M} {ℓ : vb_L} {L : Nat}
theorem vb_below_and10 {n : Nat} {a b : Int32} (hn : n ≤ 10) (h : vb_below n a) : vb_below 10 (a &&& b) := vb_below_mono (vb_below_and h) hn
theorem c_fw (hL : vb_isL P S L) : ∀ (left : Nat), left ≤ 3 → (1 ≤ left → ∀ (d : Nat) (I : Nat → Nat → Int32) (own foe ev : Int32), 5 + left ≤ d → vb_LD ℓ L I → vb_below (vb_n ℓ) own → vb_below (vb_n ℓ) foe → mm_C G d 11 [.ref L, .int own, .int foe, .int ev, .int (vb_i left)] (I, P, J, S, nc, ns) (vb_R (some (.int (vb_b (vb_fw ℓ left true own foe ev)))) (fun I' => vb_fr (vb_sc2 L) I I') P J S nc ns)) ∧ (∀ (d : Nat) (I : Nat → Nat → Int32) (own foe ev : Int32), 5 + left ≤ d → vb_LD ℓ L I → vb_below (vb_n ℓ) own → vb_below (vb_n ℓ) foe → mm_C G d 12 [.ref L, .int own, .int foe, .int ev, .int (vb_i left)] (I, P, J, S, nc, ns) (vb_R (some (.int (vb_b (vb_fw ℓ left false own foe ev)))) (fun I' => vb_fr (vb_sc2 L) I I') P J S nc ns)) := by
  intro left
  induction left with
  | zero =>
    intro _
    refine ⟨fun h => absurd h (by omega), ?_⟩
    intro d I own foe ev hd dL hbo hbf
    show mm_W _ _ 12 (mm_blk 12 0) [.ref L, .int own, .int foe, .int ev, .int (vb_i 0), .null, .null, .null, .null] [] _ _
    refine mm_w1 rfl ?_
    refine mm_wifne ?_ ?_
    · intro h1
      refine mm_w1 rfl ?_
      refine mm_wv (vb_i 2) rfl (by decide) ?_
      refine mm_niclt (by omega) (by omega) ?_ ?_
      · intro h9
        refine mm_wv (vb_i 0) rfl (by decide) ?_
        refine mm_wr rfl rfl rfl ?_
        refine ⟨I, vb_fr.rf, ?_⟩
        simp only [vb_fw]
        first | (rw [vb_eqb h1]; rfl) | (rw [vb_neb h1]; rfl)
      · intro h9
        exact absurd h9 (by omega)
    · intro h1
      refine mm_wv (vb_i 1) rfl (by decide) ?_
      refine mm_wr rfl rfl rfl ?_
      refine ⟨I, vb_fr.rf, ?_⟩
      simp only [vb_fw]
      first | (rw [vb_eqb h1]; rfl) | (rw [vb_neb h1]; rfl)
  | succ k ih =>
    intro h3
    obtain ⟨ih1, ih2⟩ := ih (by omega)
    constructor
    · intro _ d I own foe ev hd dL hbo hbf
      have hn := vl_10 dL
      have hb10 := vb_below_mono hbf hn
      have hfw : vb_cnt 10 (vb_has foe) ≤ (k + 2) / 2 → (vb_fw ℓ (k + 1) true own foe ev) = ((vb_ms ℓ own foe ev).any (fun m => vb_fw ℓ k false (vb_mvd own (m / 10) (m % 10)) (foe &&& ~~~ vb_bit (m % 10)) (ev + vb_i 1)) || vb_fw ℓ k false own foe (ev + vb_i 1)) := fun h => by simp only [vb_fw]; rw [decide_eq_true h, Bool.true_and]
      have inner : ∀ fr, fr < vb_n ℓ → (∀ (I1 : Nat → Nat → Int32) (y0 y1 y2 : Value), y0.category = 1 → y1.category = 1 → y2.category = 1 → vb_fr (vb_sc2 L) I I1 → ((vb_rs (vb_q ℓ own foe ev) (10 * (fr + 1))).any (fun m => vb_fw ℓ k false (vb_mvd own (m / 10) (m % 10)) (foe &&& ~~~ vb_bit (m % 10)) (ev + vb_i 1)) || vb_fw ℓ k false own foe (ev + vb_i 1)) = (vb_fw ℓ (k + 1) true own foe ev) → mm_W G d 11 (mm_blk 11 18) [.ref L, .int own, .int foe, .int ev, .int (vb_i (k + 1)), .int (vb_i (fr + 1)), y0, y1, y2] [] (I1, P, J, S, nc, ns) (vb_R (some (.int (vb_b (vb_fw ℓ (k + 1) true own foe ev)))) (fun I' => vb_fr (vb_sc2 L) I I') P J S nc ns)) → ∀ tg : Int32, (∀ to, to < vb_n ℓ → vb_has tg to = vb_q ℓ own foe ev (10 * fr + to)) → ∀ to, to ≤ vb_n ℓ → ∀ (I1 : Nat → Nat → Int32) (y2 : Value), y2.category = 1 → vb_fr (vb_sc2 L) I I1 → ((vb_rs (vb_q ℓ own foe ev) (10 * fr + to)).any (fun m => vb_fw ℓ k false (vb_mvd own (m / 10) (m % 10)) (foe &&& ~~~ vb_bit (m % 10)) (ev + vb_i 1)) || vb_fw ℓ k false own foe (ev + vb_i 1)) = (vb_fw ℓ (k + 1) true own foe ev) → mm_W G d 11 (mm_blk 11 54) [.ref L, .int own, .int foe, .int ev, .int (vb_i (k + 1)), .int (vb_i fr), .int tg, .int (vb_i to), y2] [] (I1, P, J, S, nc, ns) (vb_R (some (.int (vb_b (vb_fw ℓ (k + 1) true own foe ev)))) (fun I' => vb_fr (vb_sc2 L) I I') P J S nc ns) := by
        intro fr hfr ihO tg htg
        refine vb_down (vb_n ℓ) ?_
        intro to hto ihI I1 y2 hy2 hf1 heq
        have dL1 := dL.fr (vb_s2 hf1)
        refine mm_w1 rfl ?_
        refine mm_w1 rfl ?_
        refine mm_wgiv _ (vL_S0 hL) (by decide) (by decide) (vl_n dL1) ?_
        refine mm_nicge (by omega) (by omega) ?_ ?_
        · intro h60
          refine mm_nincL (ls' := [_, _, _, _, _, _, _, _, _]) 1 rfl (by decide) rfl ?_
          refine mm_wgoto ?_
          have e : to = vb_n ℓ := by omega
          subst e
          rw [vb_rs_row hn] at heq
          exact ihO I1 _ _ _ rfl rfl hy2 hf1 heq
        · intro h60
          refine mm_w1 rfl ?_
          refine mm_wv (vb_i 1) rfl (by decide) ?_
          refine mm_w1 rfl ?_
          refine mm_nbit (by omega) ?_
          refine mm_wv (-1) rfl (by decide) ?_
          refine mm_nnot ?_
          refine mm_w1 rfl ?_
          refine mm_wv (vb_i 1) rfl (by decide) ?_
          refine mm_w1 rfl ?_
          refine mm_nbit (by omega) ?_
          refine mm_w1 rfl ?_
          refine mm_w1 (ls' := [_, _, _, _, _, _, _, _, _]) rfl ?_
          refine mm_w1 rfl ?_
          refine mm_w1 rfl ?_
          refine mm_csp rfl (by decide) (by omega) (c_has (by omega)) ?_
          refine mm_bifeq ?_ ?_
          · intro h85
            refine mm_nincL (ls' := [_, _, _, _, _, _, _, _, _]) 1 rfl (by decide) rfl ?_
            refine mm_wgoto ?_
            rw [vb_rs_cons (by omega), ← htg to (by omega), h85, if_neg (by decide)] at heq
            exact ihI (by omega) I1 _ rfl hf1 heq
          · intro h85
            have hst : (vb_rs (vb_q ℓ own foe ev) (10 * fr + to)) = (10 * fr + to) :: vb_rs (vb_q ℓ own foe ev) (10 * fr + to + 1) := by rw [vb_rs_cons (by omega), ← htg to (by omega), h85, if_pos rfl]
            rw [hst, List.any_cons, show (10 * fr + to) % 10 = to by omega, show (10 * fr + to) / 10 = fr by omega] at heq
            refine mm_w1 rfl ?_
            refine mm_w1 rfl ?_
            refine mm_w1 rfl ?_
            refine mm_wv (vb_i 1) rfl (by decide) ?_
            refine mm_w1 rfl ?_
            refine mm_nbit (by omega) ?_
            refine mm_wv (-1) rfl (by decide) ?_
            refine mm_nnot ?_
            refine mm_w1 rfl ?_
            refine mm_w1 rfl ?_
            refine mm_wv (vb_i 1) rfl (by decide) ?_
            refine mm_w1 rfl ?_
            refine mm_w1 rfl ?_
            refine mm_wv (vb_i 1) rfl (by decide) ?_
            refine mm_nsub (by omega) ?_
            rw [Nat.add_sub_cancel]
            refine mm_csi rfl (by decide) (by omega) (ih2 (d - 1) I1 (vb_mvd own fr to) (foe &&& ~~~ vb_bit to) (ev + vb_i 1) (by omega) dL1 (vb_below_mvd hbo (by omega) (by omega)) (vb_below_and hbf)) ?_
            intro I2 hf2
            have hf12 := hf1.tr hf2 
            refine mm_bifeq ?_ ?_
            · intro h109
              refine mm_nincL (ls' := [_, _, _, _, _, _, _, _, _]) 1 rfl (by decide) rfl ?_
              refine mm_wgoto ?_
              rw [h109, Bool.false_or] at heq
              exact ihI (by omega) I2 _ rfl hf12 heq
            · intro h109
              refine mm_wv (vb_i 1) rfl (by decide) ?_
              refine mm_wr rfl rfl rfl ?_
              rw [h109, Bool.true_or, Bool.true_or] at heq
              refine ⟨I2, hf12, ?_⟩
              rw [← heq]; rfl  
      have outer : (vb_fw ℓ (k + 1) true own foe ev) = ((vb_ms ℓ own foe ev).any (fun m => vb_fw ℓ k false (vb_mvd own (m / 10) (m % 10)) (foe &&& ~~~ vb_bit (m % 10)) (ev + vb_i 1)) || vb_fw ℓ k false own foe (ev + vb_i 1)) → ∀ fr, fr ≤ vb_n ℓ → ∀ (I1 : Nat → Nat → Int32) (y0 y1 y2 : Value), y0.category = 1 → y1.category = 1 → y2.category = 1 → vb_fr (vb_sc2 L) I I1 → ((vb_rs (vb_q ℓ own foe ev) (10 * fr)).any (fun m => vb_fw ℓ k false (vb_mvd own (m / 10) (m % 10)) (foe &&& ~~~ vb_bit (m % 10)) (ev + vb_i 1)) || vb_fw ℓ k false own foe (ev + vb_i 1)) = (vb_fw ℓ (k + 1) true own foe ev) → mm_W G d 11 (mm_blk 11 18) [.ref L, .int own, .int foe, .int ev, .int (vb_i (k + 1)), .int (vb_i fr), y0, y1, y2] [] (I1, P, J, S, nc, ns) (vb_R (some (.int (vb_b (vb_fw ℓ (k + 1) true own foe ev)))) (fun I' => vb_fr (vb_sc2 L) I I') P J S nc ns) := by
        intro hr
        refine vb_down (vb_n ℓ) ?_
        intro fr hfr ihO I1 y0 y1 y2 hy0 hy1 hy2 hf1 heq
        have dL1 := dL.fr (vb_s2 hf1)
        refine mm_w1 rfl ?_
        refine mm_w1 rfl ?_
        refine mm_wgiv _ (vL_S0 hL) (by decide) (by decide) (vl_n dL1) ?_
        refine mm_nicge (by omega) (by omega) ?_ ?_
        · intro h24
          refine mm_w1 rfl ?_
          refine mm_w1 rfl ?_
          refine mm_w1 rfl ?_
          refine mm_w1 rfl ?_
          refine mm_wv (vb_i 1) rfl (by decide) ?_
          refine mm_w1 rfl ?_
          refine mm_w1 rfl ?_
          refine mm_wv (vb_i 1) rfl (by decide) ?_
          refine mm_nsub (by omega) ?_
          rw [Nat.add_sub_cancel]
          refine mm_csi rfl (by decide) (by omega) (ih2 (d - 1) I1 own foe (ev + vb_i 1) (by omega) dL1 hbo hbf) ?_
          intro I2 hf2
          have hf12 := hf1.tr hf2 
          refine mm_wrb rfl ?_
          have e : fr = vb_n ℓ := by omega
          subst e
          rw [vb_rs_last hn, List.any_nil, Bool.false_or] at heq
          refine ⟨I2, hf12, ?_⟩
          rw [← heq]
        · intro h24
          refine mm_w1 rfl ?_
          refine mm_w1 rfl ?_
          refine mm_csp rfl (by decide) (by omega) (c_has (by omega)) ?_
          refine mm_bifeq ?_ ?_
          · intro h33
            refine mm_wv (vb_i 0) rfl (by decide) ?_
            refine mm_w1 (ls' := [_, _, _, _, _, _, _, _, _]) rfl ?_
            refine mm_wv (vb_i 0) rfl (by decide) ?_
            refine mm_w1 (ls' := [_, _, _, _, _, _, _, _, _]) rfl ?_
            have hq := vb_qT (foe := foe) (ev := ev) hn (by omega) h33
            first
              | exact inner fr (by omega) (fun J1 z0 z1 z2 g0 g1 g2 => ihO (by omega) J1 z0 z1 z2 g0 g1 g2) _ hq 0 (by omega) I2 _ hy2 hf12 heq
              | exact inner fr (by omega) (fun J1 z0 z1 z2 g0 g1 g2 => ihO (by omega) J1 z0 z1 z2 g0 g1 g2) _ hq 0 (by omega) I1 _ hy2 hf1 heq
          · intro h33
            refine mm_w1 rfl ?_
            refine mm_w1 rfl ?_
            refine mm_w1 rfl ?_
            refine mm_w1 rfl ?_
            refine mm_w1 rfl ?_
            refine mm_cvi (vb_cv (vL_S0 hL) rfl rfl rfl rfl) (by decide) (by omega) (c_lawful (ℓ := ℓ) hL dL1 (by omega) (by omega)) ?_
            intro I2 hf2
            have hf12 := hf1.tr hf2 
            refine mm_wgoto ?_
            refine mm_w1 (ls' := [_, _, _, _, _, _, _, _, _]) rfl ?_
            refine mm_wv (vb_i 0) rfl (by decide) ?_
            refine mm_w1 (ls' := [_, _, _, _, _, _, _, _, _]) rfl ?_
            have hq := vb_qT (foe := foe) (ev := ev) hn (by omega) h33
            first
              | exact inner fr (by omega) (fun J1 z0 z1 z2 g0 g1 g2 => ihO (by omega) J1 z0 z1 z2 g0 g1 g2) _ hq 0 (by omega) I2 _ hy2 hf12 heq
              | exact inner fr (by omega) (fun J1 z0 z1 z2 g0 g1 g2 => ihO (by omega) J1 z0 z1 z2 g0 g1 g2) _ hq 0 (by omega) I1 _ hy2 hf1 heq
      show mm_W _ _ 11 (mm_blk 11 0) [.ref L, .int own, .int foe, .int ev, .int (vb_i (k + 1)), .null, .null, .null, .null] [] _ _
      refine mm_w1 rfl ?_
      refine mm_csp rfl (by decide) (by omega) (c_bc hb10) ?_
      refine mm_w1 rfl ?_
      refine mm_wv (vb_i 1) rfl (by decide) ?_
      refine mm_nadd ?_
      refine mm_wv (vb_i 2) rfl (by decide) ?_
      refine mm_ndiv (by omega) (by omega) (by omega) ?_
      have hc10 := vb_cnt_le 10 (vb_has foe)
      refine mm_nicle (by omega) (by omega) ?_ ?_
      · intro h10
        refine mm_wv (vb_i 0) rfl (by decide) ?_
        refine mm_w1 (ls' := [_, _, _, _, _, _, _, _, _]) rfl ?_
        have hr := hfw (by omega)
        exact outer hr 0 (by omega) I _ _ _ rfl rfl rfl vb_fr.rf hr.symm
      · intro h10
        refine mm_wv (vb_i 0) rfl (by decide) ?_
        refine mm_wr rfl rfl rfl ?_
        refine ⟨I, vb_fr.rf, ?_⟩
        simp only [vb_fw]
        rw [decide_eq_false (by omega), Bool.false_and]; rfl 
    · intro d I own foe ev hd dL hbo hbf
      have hn := vl_10 dL
      have inner : 1 ≤ k → ∀ fr, fr < vb_n ℓ → (∀ (I1 : Nat → Nat → Int32) (y0 y1 y2 : Value), y0.category = 1 → y1.category = 1 → y2.category = 1 → vb_fr (vb_sc2 L) I I1 → (vb_rs (vb_q ℓ foe own ev) (10 * (fr + 1))).all (fun m => vb_fw ℓ k true (own &&& ~~~ vb_bit (m % 10)) (vb_mvd foe (m / 10) (m % 10)) (ev + vb_i 1)) = (vb_fw ℓ (k + 1) false own foe ev) → mm_W G d 12 (mm_blk 12 33) [.ref L, .int own, .int foe, .int ev, .int (vb_i (k + 1)), .int (vb_i (fr + 1)), y0, y1, y2] [] (I1, P, J, S, nc, ns) (vb_R (some (.int (vb_b (vb_fw ℓ (k + 1) false own foe ev)))) (fun I' => vb_fr (vb_sc2 L) I I') P J S nc ns)) → ∀ tg : Int32, (∀ to, to < vb_n ℓ → vb_has tg to = vb_q ℓ foe own ev (10 * fr + to)) → ∀ to, to ≤ vb_n ℓ → ∀ (I1 : Nat → Nat → Int32) (y2 : Value), y2.category = 1 → vb_fr (vb_sc2 L) I I1 → (vb_rs (vb_q ℓ foe own ev) (10 * fr + to)).all (fun m => vb_fw ℓ k true (own &&& ~~~ vb_bit (m % 10)) (vb_mvd foe (m / 10) (m % 10)) (ev + vb_i 1)) = (vb_fw ℓ (k + 1) false own foe ev) → mm_W G d 12 (mm_blk 12 69) [.ref L, .int own, .int foe, .int ev, .int (vb_i (k + 1)), .int (vb_i fr), .int tg, .int (vb_i to), y2] [] (I1, P, J, S, nc, ns) (vb_R (some (.int (vb_b (vb_fw ℓ (k + 1) false own foe ev)))) (fun I' => vb_fr (vb_sc2 L) I I') P J S nc ns) := by
        intro hk fr hfr ihO tg htg
        refine vb_down (vb_n ℓ) ?_
        intro to hto ihI I1 y2 hy2 hf1 heq
        have dL1 := dL.fr (vb_s2 hf1)
        refine mm_w1 rfl ?_
        refine mm_w1 rfl ?_
        refine mm_wgiv _ (vL_S0 hL) (by decide) (by decide) (vl_n dL1) ?_
        refine mm_nicge (by omega) (by omega) ?_ ?_
        · intro h75
          refine mm_nincL (ls' := [_, _, _, _, _, _, _, _, _]) 1 rfl (by decide) rfl ?_
          refine mm_wgoto ?_
          have e : to = vb_n ℓ := by omega
          subst e
          rw [vb_rs_row hn] at heq
          exact ihO I1 _ _ _ rfl rfl hy2 hf1 heq
        · intro h75
          refine mm_w1 rfl ?_
          refine mm_wv (vb_i 1) rfl (by decide) ?_
          refine mm_w1 rfl ?_
          refine mm_nbit (by omega) ?_
          refine mm_wv (-1) rfl (by decide) ?_
          refine mm_nnot ?_
          refine mm_w1 rfl ?_
          refine mm_wv (vb_i 1) rfl (by decide) ?_
          refine mm_w1 rfl ?_
          refine mm_nbit (by omega) ?_
          refine mm_w1 rfl ?_
          refine mm_w1 (ls' := [_, _, _, _, _, _, _, _, _]) rfl ?_
          refine mm_w1 rfl ?_
          refine mm_w1 rfl ?_
          refine mm_csp rfl (by decide) (by omega) (c_has (by omega)) ?_
          refine mm_bifeq ?_ ?_
          · intro h100
            refine mm_nincL (ls' := [_, _, _, _, _, _, _, _, _]) 1 rfl (by decide) rfl ?_
            refine mm_wgoto ?_
            rw [vb_rs_cons (by omega), ← htg to (by omega), h100, if_neg (by decide)] at heq
            exact ihI (by omega) I1 _ rfl hf1 heq
          · intro h100
            have hst : (vb_rs (vb_q ℓ foe own ev) (10 * fr + to)) = (10 * fr + to) :: vb_rs (vb_q ℓ foe own ev) (10 * fr + to + 1) := by rw [vb_rs_cons (by omega), ← htg to (by omega), h100, if_pos rfl]
            rw [hst, List.all_cons, show (10 * fr + to) % 10 = to by omega, show (10 * fr + to) / 10 = fr by omega] at heq
            refine mm_w1 rfl ?_
            refine mm_w1 rfl ?_
            refine mm_wv (vb_i 1) rfl (by decide) ?_
            refine mm_w1 rfl ?_
            refine mm_nbit (by omega) ?_
            refine mm_wv (-1) rfl (by decide) ?_
            refine mm_nnot ?_
            refine mm_w1 rfl ?_
            refine mm_w1 rfl ?_
            refine mm_w1 rfl ?_
            refine mm_wv (vb_i 1) rfl (by decide) ?_
            refine mm_w1 rfl ?_
            refine mm_w1 rfl ?_
            refine mm_wv (vb_i 1) rfl (by decide) ?_
            refine mm_nsub (by omega) ?_
            rw [Nat.add_sub_cancel]
            refine mm_csi rfl (by decide) (by omega) (ih1 hk (d - 1) I1 (own &&& ~~~ vb_bit to) (vb_mvd foe fr to) (ev + vb_i 1) (by omega) dL1 (vb_below_and hbo) (vb_below_mvd hbf (by omega) (by omega))) ?_
            intro I2 hf2
            have hf12 := hf1.tr hf2 
            refine mm_bifne ?_ ?_
            · intro h124
              refine mm_nincL (ls' := [_, _, _, _, _, _, _, _, _]) 1 rfl (by decide) rfl ?_
              refine mm_wgoto ?_
              rw [h124, Bool.true_and] at heq
              exact ihI (by omega) I2 _ rfl hf12 heq
            · intro h124
              refine mm_wv (vb_i 0) rfl (by decide) ?_
              refine mm_wr rfl rfl rfl ?_
              rw [h124, Bool.false_and] at heq
              refine ⟨I2, hf12, ?_⟩
              rw [← heq]; rfl  
      have outer : 1 ≤ k → ∀ fr, fr ≤ vb_n ℓ → ∀ (I1 : Nat → Nat → Int32) (y0 y1 y2 : Value), y0.category = 1 → y1.category = 1 → y2.category = 1 → vb_fr (vb_sc2 L) I I1 → (vb_rs (vb_q ℓ foe own ev) (10 * fr)).all (fun m => vb_fw ℓ k true (own &&& ~~~ vb_bit (m % 10)) (vb_mvd foe (m / 10) (m % 10)) (ev + vb_i 1)) = (vb_fw ℓ (k + 1) false own foe ev) → mm_W G d 12 (mm_blk 12 33) [.ref L, .int own, .int foe, .int ev, .int (vb_i (k + 1)), .int (vb_i fr), y0, y1, y2] [] (I1, P, J, S, nc, ns) (vb_R (some (.int (vb_b (vb_fw ℓ (k + 1) false own foe ev)))) (fun I' => vb_fr (vb_sc2 L) I I') P J S nc ns) := by
        intro hk
        refine vb_down (vb_n ℓ) ?_
        intro fr hfr ihO I1 y0 y1 y2 hy0 hy1 hy2 hf1 heq
        have dL1 := dL.fr (vb_s2 hf1)
        refine mm_w1 rfl ?_
        refine mm_w1 rfl ?_
        refine mm_wgiv _ (vL_S0 hL) (by decide) (by decide) (vl_n dL1) ?_
        refine mm_nicge (by omega) (by omega) ?_ ?_
        · intro h39
          refine mm_wv (vb_i 1) rfl (by decide) ?_
          refine mm_wr rfl rfl rfl ?_
          have e : fr = vb_n ℓ := by omega
          subst e
          rw [vb_rs_last hn, List.all_nil] at heq
          refine ⟨I1, hf1, ?_⟩
          rw [← heq]; rfl
        · intro h39
          refine mm_w1 rfl ?_
          refine mm_w1 rfl ?_
          refine mm_csp rfl (by decide) (by omega) (c_has (by omega)) ?_
          refine mm_bifeq ?_ ?_
          · intro h48
            refine mm_wv (vb_i 0) rfl (by decide) ?_
            refine mm_w1 (ls' := [_, _, _, _, _, _, _, _, _]) rfl ?_
            refine mm_wv (vb_i 0) rfl (by decide) ?_
            refine mm_w1 (ls' := [_, _, _, _, _, _, _, _, _]) rfl ?_
            have hq := vb_qT (foe := own) (ev := ev) hn (by omega) h48
            first
              | exact inner hk fr (by omega) (fun J1 z0 z1 z2 g0 g1 g2 => ihO (by omega) J1 z0 z1 z2 g0 g1 g2) _ hq 0 (by omega) I2 _ hy2 hf12 heq
              | exact inner hk fr (by omega) (fun J1 z0 z1 z2 g0 g1 g2 => ihO (by omega) J1 z0 z1 z2 g0 g1 g2) _ hq 0 (by omega) I1 _ hy2 hf1 heq
          · intro h48
            refine mm_w1 rfl ?_
            refine mm_w1 rfl ?_
            refine mm_w1 rfl ?_
            refine mm_w1 rfl ?_
            refine mm_w1 rfl ?_
            refine mm_cvi (vb_cv (vL_S0 hL) rfl rfl rfl rfl) (by decide) (by omega) (c_lawful (ℓ := ℓ) hL dL1 (by omega) (by omega)) ?_
            intro I2 hf2
            have hf12 := hf1.tr hf2 
            refine mm_wgoto ?_
            refine mm_w1 (ls' := [_, _, _, _, _, _, _, _, _]) rfl ?_
            refine mm_wv (vb_i 0) rfl (by decide) ?_
            refine mm_w1 (ls' := [_, _, _, _, _, _, _, _, _]) rfl ?_
            have hq := vb_qT (foe := own) (ev := ev) hn (by omega) h48
            first
              | exact inner hk fr (by omega) (fun J1 z0 z1 z2 g0 g1 g2 => ihO (by omega) J1 z0 z1 z2 g0 g1 g2) _ hq 0 (by omega) I2 _ hy2 hf12 heq
              | exact inner hk fr (by omega) (fun J1 z0 z1 z2 g0 g1 g2 => ihO (by omega) J1 z0 z1 z2 g0 g1 g2) _ hq 0 (by omega) I1 _ hy2 hf1 heq
      show mm_W _ _ 12 (mm_blk 12 0) [.ref L, .int own, .int foe, .int ev, .int (vb_i (k + 1)), .null, .null, .null, .null] [] _ _
      refine mm_w1 rfl ?_
      refine mm_wifne ?_ ?_
      · intro h1
        refine mm_w1 rfl ?_
        refine mm_wv (vb_i 2) rfl (by decide) ?_
        refine mm_niclt (by omega) (by omega) ?_ ?_
        · intro h9
          refine mm_wv (vb_i 0) rfl (by decide) ?_
          refine mm_wr rfl rfl rfl ?_
          simp only [vb_fw]
          rw [vb_neb h1, Bool.false_or]
          first
            | (rw [h25, Bool.and_false, Bool.false_and]; exact ⟨I1, hf1, rfl⟩)
            | (rw [decide_eq_false (by omega), Bool.false_and, Bool.false_and]; exact ⟨I, vb_fr.rf, rfl⟩)
        · intro h9
          refine mm_w1 rfl ?_
          refine mm_w1 rfl ?_
          refine mm_w1 rfl ?_
          refine mm_w1 rfl ?_
          refine mm_wv (vb_i 1) rfl (by decide) ?_
          refine mm_w1 rfl ?_
          refine mm_w1 rfl ?_
          refine mm_wv (vb_i 1) rfl (by decide) ?_
          refine mm_nsub (by omega) ?_
          rw [Nat.add_sub_cancel]
          refine mm_csi rfl (by decide) (by omega) (ih1 (by omega) (d - 1) I own foe (ev + vb_i 1) (by omega) dL hbo hbf) ?_
          intro I1 hf1 
          refine mm_bifne ?_ ?_
          · intro h25
            refine mm_wv (vb_i 0) rfl (by decide) ?_
            refine mm_w1 (ls' := [_, _, _, _, _, _, _, _, _]) rfl ?_
            have hk : 1 ≤ k := by omega
            refine outer hk 0 (by omega) I1 _ _ _ rfl rfl rfl hf1 ?_
            simp only [vb_fw]
            rw [vb_neb h1, Bool.false_or, decide_eq_true hk, h25, Bool.true_and, Bool.true_and]; rfl
          · intro h25
            refine mm_wv (vb_i 0) rfl (by decide) ?_
            refine mm_wr rfl rfl rfl ?_
            simp only [vb_fw]
            rw [vb_neb h1, Bool.false_or]
            first
              | (rw [h25, Bool.and_false, Bool.false_and]; exact ⟨I1, hf1, rfl⟩)
              | (rw [decide_eq_false (by omega), Bool.false_and, Bool.false_and]; exact ⟨I, vb_fr.rf, rfl⟩)
      · intro h1
        refine mm_wv (vb_i 1) rfl (by decide) ?_
        refine mm_wr rfl rfl rfl ?_
        refine ⟨I, vb_fr.rf, ?_⟩
        simp only [vb_fw]
        rw [vb_eqb h1]; rfl
end FORCE
