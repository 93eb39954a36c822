/-! THE CLASS'S OBJECT -/
def vb_isV (P : Nat → Nat → Nat) (S : List (Nat × Nat)) (L : Nat) : Prop := (S[0]? = some (7, 16) ∧ S[1]? = some (100, 700) ∧ S[2]? = some (100, 3) ∧ S[59]? = some (100, 8) ∧ (L = 5 ∨ L = 17)) ∧ (P 0 0 = 1 ∧ P 0 3 = 2 ∧ P 0 5 = L ∧ P 0 6 = 29 ∧ P 0 7 = 35 ∧ P 0 8 = 41 ∧ P 0 9 = 43 ∧ P 0 11 = 46 ∧ P 0 12 = 52 ∧ P 0 13 = 54 ∧ P 0 14 = 57 ∧ P 0 15 = 59 ∧ P 0 4 = 3) ∧ vb_isL P S L ∧ vb_isX P S 29 ∧ vb_isX P S 35 ∧ vb_isA P S 41 ∧ vb_isT P S 43 ∧ vb_isX P S 46 ∧ vb_isA P S 52 ∧ vb_isT P S 54 ∧ vb_isC P S 57
section
variable {P : Nat → Nat → Nat} {S : List (Nat × Nat)} {L : Nat} (h : vb_isV P S L)
theorem vV_S0 (h : vb_isV P S L) : S[0]? = some (7, 16) := h.1.1
theorem vV_S1 (h : vb_isV P S L) : S[1]? = some (100, 700) := h.1.2.1
theorem vV_S2 (h : vb_isV P S L) : S[2]? = some (100, 3) := h.1.2.2.1
theorem vV_S59 (h : vb_isV P S L) : S[59]? = some (100, 8) := h.1.2.2.2.1
theorem vV_L17 (h : vb_isV P S L) : L = 5 ∨ L = 17 := h.1.2.2.2.2
theorem vV_a0 (_ : vb_isV P S L) : 0 < 1000 := by decide
theorem vV_a1 (_ : vb_isV P S L) : 1 < 1000 := by decide
theorem vV_a2 (_ : vb_isV P S L) : 2 < 1000 := by decide
theorem vV_a59 (_ : vb_isV P S L) : 59 < 1000 := by decide
theorem vV_P0_0 (h : vb_isV P S L) : P 0 0 = 1 := h.2.1.1
theorem vV_P0_3 (h : vb_isV P S L) : P 0 3 = 2 := h.2.1.2.1
theorem vV_P0_5 (h : vb_isV P S L) : P 0 5 = L := h.2.1.2.2.1
theorem vV_P0_6 (h : vb_isV P S L) : P 0 6 = 29 := h.2.1.2.2.2.1
theorem vV_P0_7 (h : vb_isV P S L) : P 0 7 = 35 := h.2.1.2.2.2.2.1
theorem vV_P0_8 (h : vb_isV P S L) : P 0 8 = 41 := h.2.1.2.2.2.2.2.1
theorem vV_P0_9 (h : vb_isV P S L) : P 0 9 = 43 := h.2.1.2.2.2.2.2.2.1
theorem vV_P0_11 (h : vb_isV P S L) : P 0 11 = 46 := h.2.1.2.2.2.2.2.2.2.1
theorem vV_P0_12 (h : vb_isV P S L) : P 0 12 = 52 := h.2.1.2.2.2.2.2.2.2.2.1
theorem vV_P0_13 (h : vb_isV P S L) : P 0 13 = 54 := h.2.1.2.2.2.2.2.2.2.2.2.1
theorem vV_P0_14 (h : vb_isV P S L) : P 0 14 = 57 := h.2.1.2.2.2.2.2.2.2.2.2.2.1
theorem vV_P0_15 (h : vb_isV P S L) : P 0 15 = 59 := h.2.1.2.2.2.2.2.2.2.2.2.2.2.1
theorem vV_P0_4 (h : vb_isV P S L) : P 0 4 = 3 := h.2.1.2.2.2.2.2.2.2.2.2.2.2.2
theorem vV_hL (h : vb_isV P S L) : vb_isL P S L := h.2.2.1
theorem vV_hX (h : vb_isV P S L) : vb_isX P S 29 := h.2.2.2.1
theorem vV_hY (h : vb_isV P S L) : vb_isX P S 35 := h.2.2.2.2.1
theorem vV_hA (h : vb_isV P S L) : vb_isA P S 41 := h.2.2.2.2.2.1
theorem vV_hT (h : vb_isV P S L) : vb_isT P S 43 := h.2.2.2.2.2.2.1
theorem vV_hZ (h : vb_isV P S L) : vb_isX P S 46 := h.2.2.2.2.2.2.2.1
theorem vV_hB (h : vb_isV P S L) : vb_isA P S 52 := h.2.2.2.2.2.2.2.2.1
theorem vV_hU (h : vb_isV P S L) : vb_isT P S 54 := h.2.2.2.2.2.2.2.2.2.1
theorem vV_hC (h : vb_isV P S L) : vb_isC P S 57 := h.2.2.2.2.2.2.2.2.2.2
end
/-- the state: land, position, acts, sightings, image, tape, the fault's place, refusals -/
abbrev vb_St : Type := vb_L × vb_X × List vb_X × List (Nat × Nat) × Option (vb_X × List vb_X × List (Nat × Nat)) × List Int32 × Int32 × (Nat → Int32)
def vs_l (σ : vb_St) : vb_L := σ.1
def vs_x (σ : vb_St) : vb_X := σ.2.1
def vs_a (σ : vb_St) : List vb_X := σ.2.2.1
def vs_t (σ : vb_St) : List (Nat × Nat) := σ.2.2.2.1
def vs_i (σ : vb_St) : Option (vb_X × List vb_X × List (Nat × Nat)) := σ.2.2.2.2.1
def vs_p (σ : vb_St) : List Int32 := σ.2.2.2.2.2.1
def vs_f (σ : vb_St) : Int32 := σ.2.2.2.2.2.2.1
def vs_r (σ : vb_St) : Nat → Int32 := σ.2.2.2.2.2.2.2
def vb_ID (im : Option (vb_X × List vb_X × List (Nat × Nat))) (I : Nat → Nat → Int32) : Prop := ∀ z, im = some z → vb_XD z.1 46 I ∧ vb_AD z.2.1 52 I ∧ vb_TD z.2.2 54 I
def vb_VD (σ : vb_St) (L : Nat) (I : Nat → Nat → Int32) : Prop := vb_LD (vs_l σ) L I ∧ vb_XD (vs_x σ) 29 I ∧ vb_AD (vs_a σ) 41 I ∧ vb_TD (vs_t σ) 43 I ∧ I 0 10 = vb_b (vs_i σ).isSome ∧ vb_ID (vs_i σ) I ∧ I 0 1 = vb_i (vs_p σ).length ∧ (vs_p σ).length ≤ 700 ∧ (∀ i b, (vs_p σ)[i]? = some b → I 1 i = b) ∧ I 0 2 = vs_f σ ∧ ∀ j, j < 3 → I 2 j = vs_r σ j
/-- the cells that asking may change -/
def vb_vs (L a : Nat) : Prop := vb_scr L a ∨ vb_xc 35 a ∨ vb_cc 57 a ∨ a = 59
section
variable {σ : vb_St} {L : Nat} {I I' : Nat → Nat → Int32}
theorem vd_l (h : vb_VD σ L I) : vb_LD (vs_l σ) L I := h.1
theorem vd_x (h : vb_VD σ L I) : vb_XD (vs_x σ) 29 I := h.2.1
theorem vd_a (h : vb_VD σ L I) : vb_AD (vs_a σ) 41 I := h.2.2.1
theorem vd_t (h : vb_VD σ L I) : vb_TD (vs_t σ) 43 I := h.2.2.2.1
theorem vd_im (h : vb_VD σ L I) : I 0 10 = vb_b (vs_i σ).isSome := h.2.2.2.2.1
theorem vd_id (h : vb_VD σ L I) : vb_ID (vs_i σ) I := h.2.2.2.2.2.1
theorem vd_p (h : vb_VD σ L I) : I 0 1 = vb_i (vs_p σ).length := h.2.2.2.2.2.2.1
theorem vd_p7 (h : vb_VD σ L I) : (vs_p σ).length ≤ 700 := h.2.2.2.2.2.2.2.1
theorem vd_tp (h : vb_VD σ L I) : ∀ i b, (vs_p σ)[i]? = some b → I 1 i = b := h.2.2.2.2.2.2.2.2.1
theorem vd_f (h : vb_VD σ L I) : I 0 2 = vs_f σ := h.2.2.2.2.2.2.2.2.2.1
theorem vd_r (h : vb_VD σ L I) {j : Nat} (hj : j < 3) : I 2 j = vs_r σ j := h.2.2.2.2.2.2.2.2.2.2 j hj
theorem vb_ID.fr {F : Nat → Prop} {im : Option (vb_X × List vb_X × List (Nat × Nat))} (h : vb_ID im I) (hf : vb_fr F I I') (hd : ∀ a, 46 ≤ a → a < 57 → ¬ F a) : vb_ID im I' := by
  intro z hz
  obtain ⟨h1, h2, h3⟩ := h z hz
  exact ⟨h1.fr hf (fun j hj => hd _ (by omega) (by omega)), h2.fr hf (fun j hj => hd _ (by omega) (by omega)), h3.fr hf (fun j hj => hd _ (by omega) (by omega))⟩
theorem vb_VD.fr (h : vb_VD σ L I) (hL : L = 5 ∨ L = 17) (hf : vb_fr (vb_vs L) I I') : vb_VD σ L I' := by
  obtain ⟨h1, h2, h3, h4, h5, h6, h7, h8, h9, h10, h11⟩ := h
  have e : ∀ a, (∀ h : vb_vs L a, False) → I' a = I a := fun a ha => hf a ha
  have e0 := e 0 (fun h => by simp only [vb_vs, vb_scr, vb_xc, vb_cc] at h; omega)
  have e1 := e 1 (fun h => by simp only [vb_vs, vb_scr, vb_xc, vb_cc] at h; omega)
  have e2 := e 2 (fun h => by simp only [vb_vs, vb_scr, vb_xc, vb_cc] at h; omega)
  refine ⟨h1.kp hf (fun j a b => by simp only [vb_vs, vb_scr, vb_xc, vb_cc] at b; omega), h2.fr hf (fun j a b => by simp only [vb_vs, vb_scr, vb_xc, vb_cc] at b; omega), h3.fr hf (fun j a b => by simp only [vb_vs, vb_scr, vb_xc, vb_cc] at b; omega), h4.fr hf (fun j a b => by simp only [vb_vs, vb_scr, vb_xc, vb_cc] at b; omega), ?_, h6.fr hf (fun a b c d => by simp only [vb_vs, vb_scr, vb_xc, vb_cc] at d; omega), ?_, h8, ?_, ?_, ?_⟩
  · rw [e0]; exact h5
  · rw [e0]; exact h7
  · rw [e1]; exact h9
  · rw [e0]; exact h10
  · rw [e2]; exact h11
end
/-- an answer, or an exception -/
def vb_RV (o : Int32 ⊕ Nat) (Φ : (Nat → Nat → Int32) → Prop) (P : Nat → Nat → Nat) (J : Nat → Nat → Int64) (S : List (Nat × Nat)) (nc ns : Nat) : mm_R → Prop := match o with
  | .inl v => vb_R (some (.int v)) Φ P J S nc ns
  | .inr E => fun r => ∃ I', Φ I' ∧ r = (.inr E, (I', P, J, S, nc + 1, ns + 6))
/-- a number below n -/
def vb_idx (n : Nat) (v : Int32) : Option Nat := if v < 0 then none else if v < vb_i n then some v.toNatClampNeg else none
theorem vb_idx_some {n : Nat} {v : Int32} {j : Nat} (hn : n < 2 ^ 31) (h : vb_idx n v = some j) : j < n ∧ v = vb_i j := by
  simp only [vb_idx] at h
  split at h
  · cases h
  · split at h
    · rename_i h0 h1
      obtain ⟨i, hi, rfl⟩ := vb_of hn h0 h1
      rw [vb_nat (by omega)] at h
      cases h
      exact ⟨hi, rfl⟩
    · cases h
theorem vb_idx_none {n : Nat} {v : Int32} (h : vb_idx n v = none) : v < 0 ∨ (¬ v < 0 ∧ ¬ v < vb_i n) := by
  simp only [vb_idx] at h
  split at h
  · rename_i h0; exact Or.inl h0
  · split at h
    · cases h
    · rename_i h0 h1; exact Or.inr ⟨h0, h1⟩
theorem vb_idx_of {n j : Nat} (hn : n < 2 ^ 31) (h : j < n) : vb_idx n (vb_i j) = some j := by
  simp only [vb_idx]
  rw [if_neg (vb_ge0 (by omega)), if_pos ((vb_lt (by omega) hn).mpr h), vb_nat (by omega)]
theorem mm_tgt_d {x1 : Nat} {dflt hi : Int} {offs : Array Int} {v : Int32} {n : Nat} (hn : n < 2 ^ 31) (h : vb_idx n v = none) (hh : hi + 1 = n) : mm_tgt x1 dflt 0 hi offs v = some ((x1 : Int) + dflt).toNat := by
  simp only [mm_tgt]
  rw [if_pos]
  rcases vb_idx_none h with h | ⟨h0, h⟩
  · left; exact Int32.lt_iff_toInt_lt.mp h
  · right
    rw [Int32.lt_iff_toInt_lt, vb_toInt hn] at h
    omega
section ASK
variable {G : mm_G} {d : Nat} {I : Nat → Nat → Int32} {P : Nat → Nat → Nat} {J : Nat → Nat → Int64} {S : List (Nat × Nat)} {nc ns : Nat} {μ : mm_M} {σ : vb_St} {L : Nat}
theorem c_needV {j : Nat} (hV : vb_isV P S L) (dV : vb_VD σ L I) (hj : j < vb_n (vs_l σ)) : mm_Call G d 123 [.ref 0, .int (vb_i j)] (I, P, J, S, nc, ns) (.inl none, (I, P, J, S, nc, ns)) := by
  have hL := vV_hL hV
  have dL := vd_l dV
  have hn := vl_10 dL
  refine mm_C.call ?_
  show mm_W _ _ 123 (mm_blk 123 0) [.ref 0, .int (vb_i j)] [] _ _
  refine mm_w1 rfl ?_
  refine mm_niflt (by omega) ?_
  refine mm_w1 rfl ?_
  refine mm_w1 rfl ?_
  refine mm_wgr (vV_S0 hV) (by decide) (by decide) (vV_P0_5 hV) (vL_a0 hL) ?_
  refine mm_wgiv _ (vL_S0 hL) (by decide) (by decide) (vl_n dL) ?_
  refine mm_niclt (by omega) (by omega) ?_ ?_
  · intro h12
    refine mm_wr rfl rfl rfl ?_
    exact rfl
  · intro h12
    exact absurd hj h12
theorem c_needV_no {v : Int32} (hV : vb_isV P S L) (dV : vb_VD σ L I) (hv : vb_idx (vb_n (vs_l σ)) v = none) : mm_Call G d 123 [.ref 0, .int v] (I, P, J, S, nc, ns) (.inr 0, (I, P, J, S, nc + 1, ns + 6)) := by
  have hL := vV_hL hV
  have dL := vd_l dV
  have hn := vl_10 dL
  refine mm_C.call ?_
  show mm_W _ _ 123 (mm_blk 123 0) [.ref 0, .int v] [] _ _
  refine mm_w1 rfl ?_
  refine mm_wiflt ?_ ?_
  · intro h1
    refine mm_wthr rfl rfl rfl rfl ?_
    exact rfl
  · intro h1
    refine mm_w1 rfl ?_
    refine mm_w1 rfl ?_
    refine mm_wgr (vV_S0 hV) (by decide) (by decide) (vV_P0_5 hV) (vL_a0 hL) ?_
    refine mm_wgiv _ (vL_S0 hL) (by decide) (by decide) (vl_n dL) ?_
    refine mm_wiclt ?_ ?_
    · intro h12
      rcases vb_idx_none hv with h | ⟨h0, h⟩
      · exact absurd h h1
      · exact absurd h12 h
    · intro h12
      refine mm_wthr rfl rfl rfl rfl ?_
      exact rfl
theorem c_needS {j : Nat} (hV : vb_isV P S L) (hj : j < 2) : mm_Call G d 124 [.ref 0, .int (vb_i j)] (I, P, J, S, nc, ns) (.inl none, (I, P, J, S, nc, ns)) := by
  refine mm_C.call ?_
  show mm_W _ _ 124 (mm_blk 124 0) [.ref 0, .int (vb_i j)] [] _ _
  refine mm_w1 rfl ?_
  refine mm_nifeq (by omega) ?_ ?_
  · intro h1
    refine mm_wr rfl rfl rfl ?_
    exact rfl
  · intro h1
    refine mm_w1 rfl ?_
    refine mm_wv (vb_i 1) rfl (by decide) ?_
    refine mm_niceq (by omega) (by omega) ?_ ?_
    · intro h6
      refine mm_wr rfl rfl rfl ?_
      exact rfl
    · intro h6
      exact absurd hj (by omega)
theorem c_needS_no {v : Int32} (_ : vb_isV P S L) (hv : vb_idx 2 v = none) : mm_Call G d 124 [.ref 0, .int v] (I, P, J, S, nc, ns) (.inr 0, (I, P, J, S, nc + 1, ns + 6)) := by
  refine mm_C.call ?_
  show mm_W _ _ 124 (mm_blk 124 0) [.ref 0, .int v] [] _ _
  refine mm_w1 rfl ?_
  refine mm_wifeq ?_ ?_
  · intro h1
    rw [h1] at hv; exact absurd hv (by decide)
  · intro h1
    refine mm_w1 rfl ?_
    refine mm_wv (vb_i 1) rfl (by decide) ?_
    refine mm_wiceq ?_ ?_
    · intro h6
      rw [h6] at hv; exact absurd hv (by decide)
    · intro h6
      refine mm_wthr rfl rfl rfl rfl ?_
      exact rfl
theorem c_isStyle {v : Int32} (hV : vb_isV P S L) (dV : vb_VD σ L I) : mm_Call G d 125 [.ref 0, .int v] (I, P, J, S, nc, ns) (.inl (some (.int (vb_b (vb_idx (vb_sc (vs_l σ)) v).isSome))), (I, P, J, S, nc, ns)) := by
  have hL := vV_hL hV
  have dL := vd_l dV
  have hs3 := vl_sc3 dL
  refine mm_C.call ?_
  show mm_W _ _ 125 (mm_blk 125 0) [.ref 0, .int v] [] _ _
  refine mm_w1 rfl ?_
  refine mm_wiflt ?_ ?_
  · intro h1
    refine mm_wv (vb_i 0) rfl (by decide) ?_
    refine mm_wr rfl rfl rfl ?_
    simp only [vb_idx]
    first
      | (rw [if_pos h1]; rfl)
      | (rw [if_neg h1, if_pos h12]; rfl)
      | (rw [if_neg h1, if_neg h12]; rfl)
  · intro h1
    refine mm_w1 rfl ?_
    refine mm_w1 rfl ?_
    refine mm_wgr (vV_S0 hV) (by decide) (by decide) (vV_P0_5 hV) (vL_a0 hL) ?_
    refine mm_wgiv _ (vL_S0 hL) (by decide) (by decide) (vl_sc dL) ?_
    refine mm_wicge ?_ ?_
    · intro h12
      refine mm_wv (vb_i 0) rfl (by decide) ?_
      refine mm_wr rfl rfl rfl ?_
      simp only [vb_idx]
      first
        | (rw [if_pos h1]; rfl)
        | (rw [if_neg h1, if_pos h12]; rfl)
        | (rw [if_neg h1, if_neg h12]; rfl)
    · intro h12
      refine mm_wv (vb_i 1) rfl (by decide) ?_
      refine mm_wgoto ?_
      refine mm_wr rfl rfl rfl ?_
      simp only [vb_idx]
      first
        | (rw [if_pos h1]; rfl)
        | (rw [if_neg h1, if_pos h12]; rfl)
        | (rw [if_neg h1, if_neg h12]; rfl)
def q_tgt (ℓ : vb_L) (x : vb_X) (fr : Nat) : Int32 := if vx_in (vx_s x) fr = 2 then 0 else vb_law ℓ (vx_s x (vx_in (vx_s x) fr)) (vx_s x (1 - vx_in (vx_s x) fr)) fr (vb_i (vx_e x))
def q_mayT (ℓ : vb_L) (x : vb_X) (fr to : Nat) : Bool := decide (vx_in (vx_s x) fr = vx_tn x) && vb_has (q_tgt ℓ x fr) to
def q_hang (ℓ : vb_L) (x : vb_X) (v : Nat) : Int32 := if vx_in (vx_s x) v = 2 then 0 else vb_ep ℓ (vx_s x (vx_in (vx_s x) v) &&& ~~~ vb_bit v) (vx_s x (1 - vx_in (vx_s x) v)) (vb_i (vx_e x)) &&& ~~~ vb_ep ℓ (vx_s x (vx_in (vx_s x) v)) (vx_s x (1 - vx_in (vx_s x) v)) (vb_i (vx_e x))
def q_pin (ℓ : vb_L) (x : vb_X) (s : Nat) : Int32 := vb_set (vb_n ℓ) (fun v => vb_has (vx_s x s) v && !(q_hang ℓ x v == 0))
theorem c_tgt (hV : vb_isV P S L) (dV : vb_VD σ L I) {fr : Nat} (hfr : fr < vb_n (vs_l σ)) (hd : 4 ≤ d) : mm_C G d 126 [.ref 0, .int (vb_i fr)] (I, P, J, S, nc, ns) (vb_R (some (.int (q_tgt (vs_l σ) (vs_x σ) fr))) (fun I' => vb_fr (vb_vs L) I I') P J S nc ns) := by
  have hL := vV_hL hV
  have hX := vV_hX hV
  have hY := vV_hY hV
  have hA := vV_hA hV
  have hT := vV_hT hV
  have hC := vV_hC hV
  have hL17 := vV_L17 hV
  have hF : vb_fr (vb_vs L) I I := vb_fr.rf
  have dL := vd_l dV
  have dX := vd_x dV
  have dA := vd_a dV
  have dT := vd_t dV
  have hn := vl_10 dL
  have he := vx_e2 dX
  have ht := vx_t2 (vs_x σ)
  have hin := vx_in2 (vx_s (vs_x σ)) fr
  show mm_W _ _ 126 (mm_blk 126 0) [.ref 0, .int (vb_i fr), .null] [] _ _
  refine mm_w1 rfl ?_
  refine mm_wgr (vV_S0 hV) (by decide) (by decide) (vV_P0_6 hV) (vX_a0 hX) ?_
  refine mm_w1 rfl ?_
  refine mm_cvp (vb_cv (vX_S0 hX) rfl rfl rfl rfl) (by decide) (by omega) (c_stoneIn hX dX (by omega) (by omega)) ?_
  refine mm_w1 (ls' := [_, _, _]) rfl ?_
  refine mm_w1 rfl ?_
  refine mm_wv (vb_i 2) rfl (by decide) ?_
  refine mm_nicne (by omega) (by omega) ?_ ?_
  · intro h11
    refine mm_w1 rfl ?_
    refine mm_wgr (vV_S0 hV) (by decide) (by decide) (vV_P0_5 hV) (vL_a0 hL) ?_
    refine mm_w1 rfl ?_
    refine mm_wgr (vV_S0 hV) (by decide) (by decide) (vV_P0_6 hV) (vX_a0 hX) ?_
    refine mm_wgr (vX_S0 hX) (by decide) (by decide) (vX_P0_0 hX) (vX_a1 hX) ?_
    refine mm_w1 rfl ?_
    refine mm_wiav _ (vX_a1 hX) (vX_S1 hX) (by decide) (by omega) (vx_hs dX (by omega)) ?_
    refine mm_w1 rfl ?_
    refine mm_wgr (vV_S0 hV) (by decide) (by decide) (vV_P0_6 hV) (vX_a0 hX) ?_
    refine mm_wgr (vX_S0 hX) (by decide) (by decide) (vX_P0_0 hX) (vX_a1 hX) ?_
    refine mm_wv (vb_i 1) rfl (by decide) ?_
    refine mm_w1 rfl ?_
    refine mm_nsub (by omega) ?_
    refine mm_wiav _ (vX_a1 hX) (vX_S1 hX) (by decide) (by omega) (vx_hs dX (by omega)) ?_
    refine mm_w1 rfl ?_
    refine mm_w1 rfl ?_
    refine mm_wgr (vV_S0 hV) (by decide) (by decide) (vV_P0_6 hV) (vX_a0 hX) ?_
    refine mm_wgiv _ (vX_S0 hX) (by decide) (by decide) (vx_he dX) ?_
    refine mm_cvi (vb_cv (vL_S0 hL) rfl rfl rfl rfl) (by decide) (by omega) (c_lawful (ℓ := vs_l σ) hL dL (by omega) (by omega)) ?_
    intro I1 hf1
    have hF1 : vb_fr (vb_vs L) I I1 := hF.tr (hf1.mono (fun a h => by exact Or.inl (Or.inr h)))
    have dV1 := dV.fr hL17 hF1
    have dL1 := vd_l dV1
    have dX1 := vd_x dV1
    refine mm_wr rfl rfl rfl ?_
    refine ⟨_, hF1, ?_⟩
    rw [q_tgt, if_neg h11]
  · intro h11
    refine mm_wv (vb_i 0) rfl (by decide) ?_
    refine mm_wr rfl rfl rfl ?_
    refine ⟨I, hF, ?_⟩
    rw [q_tgt, if_pos h11]; rfl
theorem c_mayT (hV : vb_isV P S L) (dV : vb_VD σ L I) {fr to : Nat} (hfr : fr < vb_n (vs_l σ)) (hto : to < vb_n (vs_l σ)) (hd : 5 ≤ d) : mm_C G d 127 [.ref 0, .int (vb_i fr), .int (vb_i to)] (I, P, J, S, nc, ns) (vb_R (some (.int (vb_b (q_mayT (vs_l σ) (vs_x σ) fr to)))) (fun I' => vb_fr (vb_vs L) I I') P J S nc ns) := by
  have hL := vV_hL hV
  have hX := vV_hX hV
  have hY := vV_hY hV
  have hA := vV_hA hV
  have hT := vV_hT hV
  have hC := vV_hC hV
  have hL17 := vV_L17 hV
  have hF : vb_fr (vb_vs L) I I := vb_fr.rf
  have dL := vd_l dV
  have dX := vd_x dV
  have dA := vd_a dV
  have dT := vd_t dV
  have hn := vl_10 dL
  have he := vx_e2 dX
  have ht := vx_t2 (vs_x σ)
  have hin := vx_in2 (vx_s (vs_x σ)) fr
  show mm_W _ _ 127 (mm_blk 127 0) [.ref 0, .int (vb_i fr), .int (vb_i to)] [] _ _
  refine mm_w1 rfl ?_
  refine mm_wgr (vV_S0 hV) (by decide) (by decide) (vV_P0_6 hV) (vX_a0 hX) ?_
  refine mm_w1 rfl ?_
  refine mm_cvp (vb_cv (vX_S0 hX) rfl rfl rfl rfl) (by decide) (by omega) (c_stoneIn hX dX (by omega) (by omega)) ?_
  refine mm_w1 rfl ?_
  refine mm_wgr (vV_S0 hV) (by decide) (by decide) (vV_P0_6 hV) (vX_a0 hX) ?_
  refine mm_cvp (vb_cv (vX_S0 hX) rfl rfl rfl rfl) (by decide) (by omega) (c_turn hX dX) ?_
  refine mm_nicne (by omega) (by omega) ?_ ?_
  · intro h15
    refine mm_wv (vb_i 0) rfl (by decide) ?_
    refine mm_wr rfl rfl rfl ?_
    refine ⟨_, hF, ?_⟩
    rw [q_mayT]
    first
      | (rw [decide_eq_true h15, Bool.true_and, h27]; rfl)
      | (rw [decide_eq_false h15, Bool.false_and]; rfl)
  · intro h15
    refine mm_w1 rfl ?_
    refine mm_w1 rfl ?_
    refine mm_cvi (vb_cv (vV_S0 hV) rfl rfl rfl rfl) (by decide) (by omega) (c_tgt (σ := σ) hV dV (by omega) (by omega)) ?_
    intro I1 hf1
    have hF1 : vb_fr (vb_vs L) I I1 := hF.tr (hf1.mono (fun a h => by exact h))
    have dV1 := dV.fr hL17 hF1
    have dL1 := vd_l dV1
    have dX1 := vd_x dV1
    refine mm_w1 rfl ?_
    refine mm_csp rfl (by decide) (by omega) (c_has (by omega)) ?_
    refine mm_bifeq ?_ ?_
    · intro h27
      refine mm_wv (vb_i 0) rfl (by decide) ?_
      refine mm_wr rfl rfl rfl ?_
      refine ⟨_, hF1, ?_⟩
      rw [q_mayT]
      first
        | (rw [decide_eq_true h15, Bool.true_and, h27]; rfl)
        | (rw [decide_eq_false h15, Bool.false_and]; rfl)
    · intro h27
      refine mm_wv (vb_i 1) rfl (by decide) ?_
      refine mm_wgoto ?_
      refine mm_wr rfl rfl rfl ?_
      refine ⟨_, hF1, ?_⟩
      rw [q_mayT]
      first
        | (rw [decide_eq_true h15, Bool.true_and, h27]; rfl)
        | (rw [decide_eq_false h15, Bool.false_and]; rfl)
theorem c_hang (hV : vb_isV P S L) (dV : vb_VD σ L I) {v : Nat} (hv : v < vb_n (vs_l σ)) (hd : 5 ≤ d) : mm_C G d 128 [.ref 0, .int (vb_i v)] (I, P, J, S, nc, ns) (vb_R (some (.int (q_hang (vs_l σ) (vs_x σ) v))) (fun I' => vb_fr (vb_vs L) I I') P J S nc ns) := by
  have hL := vV_hL hV
  have hX := vV_hX hV
  have hY := vV_hY hV
  have hA := vV_hA hV
  have hT := vV_hT hV
  have hC := vV_hC hV
  have hL17 := vV_L17 hV
  have hF : vb_fr (vb_vs L) I I := vb_fr.rf
  have dL := vd_l dV
  have dX := vd_x dV
  have dA := vd_a dV
  have dT := vd_t dV
  have hn := vl_10 dL
  have he := vx_e2 dX
  have ht := vx_t2 (vs_x σ)
  have hin := vx_in2 (vx_s (vs_x σ)) v
  show mm_W _ _ 128 (mm_blk 128 0) [.ref 0, .int (vb_i v), .null, .null, .null, .null] [] _ _
  refine mm_w1 rfl ?_
  refine mm_wgr (vV_S0 hV) (by decide) (by decide) (vV_P0_6 hV) (vX_a0 hX) ?_
  refine mm_w1 rfl ?_
  refine mm_cvp (vb_cv (vX_S0 hX) rfl rfl rfl rfl) (by decide) (by omega) (c_stoneIn hX dX (by omega) (by omega)) ?_
  refine mm_w1 (ls' := [_, _, _, _, _, _]) rfl ?_
  refine mm_w1 rfl ?_
  refine mm_wv (vb_i 2) rfl (by decide) ?_
  refine mm_nicne (by omega) (by omega) ?_ ?_
  · intro h11
    refine mm_w1 rfl ?_
    refine mm_wgr (vV_S0 hV) (by decide) (by decide) (vV_P0_6 hV) (vX_a0 hX) ?_
    refine mm_wgr (vX_S0 hX) (by decide) (by decide) (vX_P0_0 hX) (vX_a1 hX) ?_
    refine mm_w1 rfl ?_
    refine mm_wiav _ (vX_a1 hX) (vX_S1 hX) (by decide) (by omega) (vx_hs dX (by omega)) ?_
    refine mm_w1 (ls' := [_, _, _, _, _, _]) rfl ?_
    refine mm_w1 rfl ?_
    refine mm_wgr (vV_S0 hV) (by decide) (by decide) (vV_P0_6 hV) (vX_a0 hX) ?_
    refine mm_wgr (vX_S0 hX) (by decide) (by decide) (vX_P0_0 hX) (vX_a1 hX) ?_
    refine mm_wv (vb_i 1) rfl (by decide) ?_
    refine mm_w1 rfl ?_
    refine mm_nsub (by omega) ?_
    refine mm_wiav _ (vX_a1 hX) (vX_S1 hX) (by decide) (by omega) (vx_hs dX (by omega)) ?_
    refine mm_w1 (ls' := [_, _, _, _, _, _]) rfl ?_
    refine mm_w1 rfl ?_
    refine mm_wgr (vV_S0 hV) (by decide) (by decide) (vV_P0_5 hV) (vL_a0 hL) ?_
    refine mm_w1 rfl ?_
    refine mm_w1 rfl ?_
    refine mm_w1 rfl ?_
    refine mm_wgr (vV_S0 hV) (by decide) (by decide) (vV_P0_6 hV) (vX_a0 hX) ?_
    refine mm_wgiv _ (vX_S0 hX) (by decide) (by decide) (vx_he dX) ?_
    refine mm_cvi (vb_cv (vL_S0 hL) rfl rfl rfl rfl) (by decide) (by omega) (c_enPrise (ℓ := vs_l σ) hL dL (by omega)) ?_
    intro I1 hf1
    have hF1 : vb_fr (vb_vs L) I I1 := hF.tr (hf1.mono (fun a h => by exact Or.inl (Or.inr h)))
    have dV1 := dV.fr hL17 hF1
    have dL1 := vd_l dV1
    have dX1 := vd_x dV1
    refine mm_w1 (ls' := [_, _, _, _, _, _]) rfl ?_
    refine mm_w1 rfl ?_
    refine mm_wgr (vV_S0 hV) (by decide) (by decide) (vV_P0_5 hV) (vL_a0 hL) ?_
    refine mm_w1 rfl ?_
    refine mm_wv (vb_i 1) rfl (by decide) ?_
    refine mm_w1 rfl ?_
    refine mm_nbit (by omega) ?_
    refine mm_wv (-1) rfl (by decide) ?_
    refine mm_nnot ?_
    refine mm_w1 rfl ?_
    refine mm_w1 rfl ?_
    refine mm_w1 rfl ?_
    refine mm_wgr (vV_S0 hV) (by decide) (by decide) (vV_P0_6 hV) (vX_a0 hX) ?_
    refine mm_wgiv _ (vX_S0 hX) (by decide) (by decide) (vx_he dX1) ?_
    refine mm_cvi (vb_cv (vL_S0 hL) rfl rfl rfl rfl) (by decide) (by omega) (c_enPrise (ℓ := vs_l σ) hL dL1 (by omega)) ?_
    intro I2 hf2
    have hF2 : vb_fr (vb_vs L) I I2 := hF1.tr (hf2.mono (fun a h => by exact Or.inl (Or.inr h)))
    have dV2 := dV.fr hL17 hF2
    have dL2 := vd_l dV2
    have dX2 := vd_x dV2
    refine mm_w1 rfl ?_
    refine mm_wv (-1) rfl (by decide) ?_
    refine mm_nnot ?_
    refine mm_w1 rfl ?_
    refine mm_wr rfl rfl rfl ?_
    refine ⟨_, hF2, ?_⟩
    rw [q_hang, if_neg h11]
  · intro h11
    refine mm_wv (vb_i 0) rfl (by decide) ?_
    refine mm_wr rfl rfl rfl ?_
    refine ⟨I, hF, ?_⟩
    rw [q_hang, if_pos h11]; rfl
end ASK
