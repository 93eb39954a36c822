section RDB
variable {G : mm_G} {d : Nat} {I : Nat → Nat → Int32} {P : Nat → Nat → Nat} {J : Nat → Nat → Int64} {S : List (Nat × Nat)} {nc ns : Nat} {μ : mm_M} {L : Nat} {b : Nat → Int32} {n : Nat}
def rr_z (r : (Nat × Nat) ⊕ pl_S) : Int32 := match r with
  | .inl (why, _) => vb_i why
  | .inr _ => vb_i 0
def rr_P (L : Nat) (r : (Nat × Nat) ⊕ pl_S) (I : Nat → Nat → Int32) : Prop := match r with
  | .inl (_, pl) => I 3 4 = vb_i pl
  | .inr p => pl_ok p ∧ ∃ C, C.length ≤ 700 ∧ pl_C L p C I
/-- in the text of this reading: the rest of the lines -/
theorem c_lines {F : Nat} (hR : vb_isR P S L) (hb : tx_ok b n) (hd : 64 ≤ d) : ∀ g, ∀ (i s : Nat) (p : pl_S) (C : List Int32) (r : (Nat × Nat) ⊕ pl_S) (I1 : Nat → Nat → Int32), rd b F g p s = some r → s ≤ n → i ≤ s → C.length ≤ s → pl_ok p → rd_fl L I I1 → rd_D b n I1 → rd_tk b s I1 → pl_C L p C I1 → mm_W G d 44 (mm_blk 44 38) [.ref 3, .ref 1, .int (vb_i n), .int (vb_i i)] [] (I1, P, J, S, nc, ns) (vb_R (some (.int (rr_z r))) (fun I' => rd_fl L I I' ∧ rr_P L r I') P J S nc ns) := by
  intro g
  induction g with
  | zero => intro i s p C r I1 h; cases h
  | succ g ih =>
    intro i s p C r I1 h hs his hC hp hx1 dD1 hk1 dP1
    have hL := vR_L hR
    have hL17 := vR_17 hR
    have hn7 := hb.1
    have h61 := hk1.2.2.1
    have hK := tx_K_le b s
    rw [rd] at h
    by_cases hK0 : tx_K b s = 0
    · rw [if_pos hK0] at h
      cases h
      refine mm_w1 rfl ?_
      refine mm_wv (vb_i 700) rfl (by decide) ?_
      refine mm_nicge (by omega) (by omega) ?_ ?_
      · intro h42
        refine mm_wv (vb_i 0) rfl (by decide) ?_
        refine mm_wr rfl rfl rfl ?_
        exact ⟨_, ⟨hx1, hp, C, by omega, dP1⟩, rfl⟩
      · intro h42
        refine mm_w1 rfl ?_
        refine mm_wgiv _ (vR_S3 hR) (by decide) (by decide) h61 ?_
        refine mm_nifeq (by omega) ?_ ?_
        · intro h49
          refine mm_wv (vb_i 0) rfl (by decide) ?_
          refine mm_wr rfl rfl rfl ?_
          exact ⟨_, ⟨hx1, hp, C, by omega, dP1⟩, rfl⟩
        · intro h49
          exact absurd hK0 h49
    · rw [if_neg hK0] at h
      have hsn := tx_lt hb hs hK0
      obtain ⟨q, hq⟩ : ∃ q, ln b F p s = some q := by
        cases e : ln b F p s with
        | none => rw [e] at h; cases h
        | some q => exact ⟨q, rfl⟩
      rw [hq] at h
      cases q with
      | inl x =>
        cases h
        refine mm_w1 rfl ?_
        refine mm_wv (vb_i 700) rfl (by decide) ?_
        refine mm_nicge (by omega) (by omega) ?_ ?_
        · intro h42
          omega
        · intro h42
          refine mm_w1 rfl ?_
          refine mm_wgiv _ (vR_S3 hR) (by decide) (by decide) h61 ?_
          refine mm_nifeq (by omega) ?_ ?_
          · intro h49
            exact absurd h49 hK0
          · intro h49
            refine mm_w1 rfl ?_
            refine mm_cvi (vb_cv (vR_S3 hR) rfl rfl rfl rfl) (by decide) (by omega) (c_rL hR hb hsn dD1 hk1 hp hC dP1 hq (by omega)) ?_
            intro I2 hq2
            obtain ⟨hx22, hP2⟩ := hq2
            have hx2 : rd_fl L I I2 := hx1.tr hx22
            refine mm_bifne ?_ ?_
            · intro h56
              cases h56
            · intro h56
              refine mm_w1 rfl ?_
              refine mm_wgiv _ (vR_S3 hR) (by decide) (by decide) hP2.1 ?_
              refine mm_wr rfl rfl rfl ?_
              exact ⟨_, ⟨hx2, hP2.2⟩, rfl⟩
      | inr y =>
        obtain ⟨s1, p1⟩ := y
        have hlt := ln_q hb hs hq
        refine mm_w1 rfl ?_
        refine mm_wv (vb_i 700) rfl (by decide) ?_
        refine mm_nicge (by omega) (by omega) ?_ ?_
        · intro h42
          omega
        · intro h42
          refine mm_w1 rfl ?_
          refine mm_wgiv _ (vR_S3 hR) (by decide) (by decide) h61 ?_
          refine mm_nifeq (by omega) ?_ ?_
          · intro h49
            exact absurd h49 hK0
          · intro h49
            refine mm_w1 rfl ?_
            refine mm_cvi (vb_cv (vR_S3 hR) rfl rfl rfl rfl) (by decide) (by omega) (c_rL hR hb hsn dD1 hk1 hp hC dP1 hq (by omega)) ?_
            intro I2 hq2
            obtain ⟨hx22, hP2⟩ := hq2
            have hx2 : rd_fl L I I2 := hx1.tr hx22
            refine mm_bifne ?_ ?_
            · intro h56
              refine mm_nincL (ls' := [_, _, _, _]) 1 rfl (by decide) rfl ?_
              refine mm_wgoto ?_
              obtain ⟨dD2, hk2, hs2, hp2, C2, hC2, dP2⟩ := hP2
              exact ih (i + 1) s1 p1 C2 r _ h hs2 (by omega) hC2 hp2 hx2 dD2 hk2 dP2
            · intro h56
              cases h56
theorem vb_min7 {n : Nat} (h : n ≤ 700) : (if vb_i 700 < vb_i n then vb_i 700 else vb_i n) = vb_i n := by
  rw [if_neg]
  rw [Int32.lt_iff_toInt_lt, vb_i, vb_i, Int32.toInt_ofNat_of_lt (by decide), Int32.toInt_ofNat_of_lt (by omega)]; omega
theorem c_read {F g : Nat} {r : (Nat × Nat) ⊕ pl_S} (hR : vb_isR (mm_up P 3 0 1) S L) (hb : tx_ok b n) (hT : ∀ i, i < n → I 1 i = b i) (h : rd b F g pl_0 (tx_S b 0) = some r) (hd : 64 ≤ d) : mm_C G d 44 [.ref 3, .ref 1, .int (vb_i n)] (I, P, J, S, nc, ns) (vb_R (some (.int (rr_z r))) (fun I' => (∀ a, a ≠ 3 → ¬ (L ≤ a ∧ a < L + 12) → I' a = I a) ∧ rr_P L r I') (mm_up P 3 0 1) J S nc ns) := by
  have hL := vR_L hR
  have hL17 := vR_17 hR
  have hn7 := hb.1
  show mm_W _ _ 44 (mm_blk 44 0) [.ref 3, .ref 1, .int (vb_i n), .null] [] _ _
  refine mm_w1 rfl ?_
  refine mm_w1 rfl ?_
  refine mm_wpr (vR_S3 hR) (by decide) (by decide) (by decide) ?_ 
  refine mm_w1 rfl ?_
  refine mm_w1 rfl ?_
  refine mm_w1 rfl ?_
  refine mm_wal (vR_a1 hR) (vR_S1 hR) (by decide) ?_
  refine mm_wv (vb_i n) rfl (vb_min7 hn7) ?_ 
  refine mm_wpiN (vR_S3 hR) (by decide) (by decide) ?_
  intro I1 hI1
  have hf1 : ∀ a, a ≠ 3 → I1 a = I a := fun a ha => by rw [hI1, vb_up3 _ _ ha]
  have h311 : I1 3 1 = vb_i n := by rw [hI1, vb_up1]
  refine mm_w1 rfl ?_
  refine mm_wgr (vR_S3 hR) (by decide) (by decide) (vR_P3_2 hR) (vL_a0 hL) ?_
  refine mm_cvn (vb_cv (vL_S0 hL) rfl rfl rfl rfl) (by decide) (by omega) (c_lclear hL (by omega)) ?_
  intro I2 hq2
  obtain ⟨dP2, hfa2⟩ := hq2
  have hl2 : ∀ a, a ≠ 3 → ¬ (L ≤ a ∧ a < L + 12) → I2 a = I a := fun a h1 h2 => (hfa2 a h2).trans (hf1 a h1)
  have h312 : I2 3 1 = vb_i n := by rw [hfa2 3 (by omega)]; exact h311
  refine mm_w1 rfl ?_
  refine mm_wv (vb_i 0) rfl (by decide) ?_
  refine mm_wpiN (vR_S3 hR) (by decide) (by decide) ?_
  intro I3 hI3
  have hl3 : ∀ a, a ≠ 3 → ¬ (L ≤ a ∧ a < L + 12) → I3 a = I a := fun a h1 h2 => by rw [hI3, vb_up3 _ _ h1]; exact hl2 a h1 h2
  have dP3 : pl_C L pl_0 [] I3 := dP2.g3 (.ofr hI3) (by omega)
  have h313 : I3 3 1 = vb_i n := by rw [hI3, vb_up2 _ _ (by decide)]; exact h312
  refine mm_w1 rfl ?_
  refine mm_wv (vb_i 0) rfl (by decide) ?_
  refine mm_wpiN (vR_S3 hR) (by decide) (by decide) ?_
  intro I4 hI4
  have hl4 : ∀ a, a ≠ 3 → ¬ (L ≤ a ∧ a < L + 12) → I4 a = I a := fun a h1 h2 => by rw [hI4, vb_up3 _ _ h1]; exact hl3 a h1 h2
  have dP4 : pl_C L pl_0 [] I4 := dP3.g3 ⟨fun a ha => by rw [hI4, vb_up3 _ _ ha], fun q hq => by rw [hI4, vb_up2 _ _ (by omega)]⟩ (by omega)
  have h314 : I4 3 1 = vb_i n := by rw [hI4, vb_up2 _ _ (by decide)]; exact h313
  have h54 : I4 3 5 = vb_i 0 := by rw [hI4, vb_up1]
  have dD4 : rd_D b n I4 := ⟨fun i hi => by rw [hl4 1 (by decide) (by omega)]; exact hT i hi, h314, hn7⟩
  refine mm_w1 rfl ?_
  refine mm_cvn (vb_cv (vR_S3 hR) rfl rfl rfl rfl) (by decide) (by omega) (c_next (q := 0) hR dD4 hb (Nat.zero_le _) h54 (by omega)) ?_
  intro I5 hq5
  obtain ⟨hk5, hf35⟩ := hq5
  refine mm_wv (vb_i 0) rfl (by decide) ?_
  refine mm_w1 (ls' := [_, _, _, _]) rfl ?_
  have key := c_lines (G := G) (I := I4) (J := J) (nc := nc) (ns := ns) (d := d) hR hb hd g 0 (tx_S b 0) pl_0 [] r _ h (tx_S_n hb (Nat.zero_le _)) (Nat.zero_le _) (Nat.zero_le _) pl_ok0 (.ofg (.of3 hf35)) (dD4.f3 hf35) hk5 (dP4.g3 (.of3 hf35) (by omega))
  refine key.imp (fun r hr => ?_)
  obtain ⟨I', ⟨h1, h2⟩, h3⟩ := hr
  exact ⟨I', ⟨fun a ha hb => (h1.1 a ha hb).trans (hl4 a ha hb), h2⟩, h3⟩
end RDB
