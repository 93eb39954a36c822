section POS2
variable {G : mm_G} {d : Nat} {I : Nat → Nat → Int32} {P : Nat → Nat → Nat} {J : Nat → Nat → Int64} {S : List (Nat × Nat)} {nc ns : Nat} {μ : mm_M} {ℓ : vb_L} {L : Nat}
variable {x y : vb_X} {X Y : Nat}
theorem vb_told_m1 {m : Nat} (h : m < 100) : ¬ vb_told m = -1 := by
  rw [vb_told_lt h]
  intro e
  have := congrArg Int32.toInt e
  rw [vb_toInt (by omega)] at this
  have h1 : (-1 : Int32).toInt = -1 := rfl
  omega
/-- the best of a list is of it, or what stood before -/
theorem vx_pick_mem (g : Nat → Int32) : ∀ (l : List Nat) (b : Nat × Int32), (vx_pick g l b).1 = b.1 ∨ (vx_pick g l b).1 ∈ l := by
  intro l
  induction l with
  | nil => intro b; exact Or.inl rfl
  | cons m l ih =>
    intro b
    have e : vx_pick g (m :: l) b = vx_pick g l (if b.2 < g m then (m, g m) else b) := rfl
    rw [e]
    rcases ih (if b.2 < g m then (m, g m) else b) with h | h
    · by_cases hc : b.2 < g m
      · rw [if_pos hc] at h ⊢; right; rw [h]; exact List.mem_cons_self
      · rw [if_neg hc] at h ⊢; left; exact h
    · right; exact List.mem_cons_of_mem _ h
theorem vx_by_lt (ℓ : vb_L) (x : vb_X) : vx_by ℓ x = 100 ∨ vx_by ℓ x ∈ vx_ms ℓ x := by
  simp only [vx_by]
  split
  · exact Or.inl rfl
  · exact vx_pick_mem _ _ _
theorem vx_by_told (ℓ : vb_L) (x : vb_X) : (vx_by ℓ x = 100 ∧ vb_told (vx_by ℓ x) = -1) ∨ (vx_by ℓ x < 100 ∧ vx_by ℓ x / 10 < vb_n ℓ ∧ vx_by ℓ x % 10 < vb_n ℓ ∧ ¬ vb_told (vx_by ℓ x) = -1 ∧ vb_told (vx_by ℓ x) = vb_i (100 * (vx_by ℓ x / 10) + vx_by ℓ x % 10)) := by
  rcases vx_by_lt ℓ x with h | h
  · left; rw [h]; exact ⟨rfl, rfl⟩
  · right
    obtain ⟨h1, h2, h3⟩ := vb_ms_lt h
    exact ⟨h1, h2, h3, vb_told_m1 h1, vb_told_lt h1⟩
/-- the cells that playing may change -/
def vb_pc (L X a : Nat) : Prop := vb_scr L a ∨ vb_xc X a
theorem c_play (hX : vb_isX P S X) (hL : vb_isL P S L) (dX : vb_XD x X I) (dL : vb_LD ℓ L I) (hd : 6 ≤ d) (hLX : L + 12 ≤ X ∨ X + 6 ≤ L) (hok : vx_ok ℓ x) (he : vx_e x < 2000) : mm_C G d 40 [.ref X, .ref L] (I, P, J, S, nc, ns) (vb_R (some (.int (vb_told (vx_by ℓ x)))) (fun I' => vb_XD (vx_play ℓ x) X I' ∧ vb_LD ℓ L I' ∧ vb_fr (vb_pc L X) I I') P J S nc ns) := by
  have hn := vl_10 dL
  have ht := vx_t2 x
  have he9 := vx_e2 dX
  have hlen := vb_ms_len (own := vx_s x (vx_tn x)) (foe := vx_s x (1 - vx_tn x)) (ev := vb_i (vx_e x)) hn (vl_deg dL)
  have hlen : (vx_ms ℓ x).length ≤ 36 := hlen
  have tail : ∀ (I1 : Nat → Nat → Int32) (z5 z6 : Int32) (n7 n8 : Nat) (x9 : Value), z5 = vb_told (vx_by ℓ x) → vb_fr (vb_scr L) I I1 → mm_W G d 40 (mm_blk 40 130) [.ref X, .ref L, .int (vb_i (vx_tn x)), .int (vx_s x (vx_tn x)), .int (vx_s x (1 - vx_tn x)), .int z5, .int z6, .int (vb_i n7), .int (vb_i n8), x9] [] (I1, P, J, S, nc, ns) (vb_R (some (.int (vb_told (vx_by ℓ x)))) (fun I' => vb_XD (vx_play ℓ x) X I' ∧ vb_LD ℓ L I' ∧ vb_fr (vb_pc L X) I I') P J S nc ns) := by
    intro I1 z5 z6 n7 n8 x9 h5 hf1
    subst h5
    have dL1 := dL.fr hf1
    have dX1 : vb_XD x X I1 := dX.fr hf1 (fun j h1 h2 => by simp only [vb_scr] at h2; omega)
    refine mm_w1 rfl ?_
    refine mm_wv (-1) rfl (by decide) ?_
    rcases vx_by_told ℓ x with ⟨hb, hb1⟩ | ⟨hb, hb2, hb3, hb1, hb4⟩
    · refine mm_wiceq ?_ ?_
      · intro h8
        refine mm_w1 rfl ?_
        refine mm_w1 rfl ?_
        refine mm_cvn (vb_cv (vX_S0 hX) rfl rfl rfl rfl) (by decide) (by omega) (c_end hX hL dX1 dL1 (by omega) (by omega) (by first | assumption | omega)) ?_
        intro I2 hq2
        obtain ⟨dX2, hf2⟩ := hq2
        refine mm_w1 rfl ?_
        refine mm_wr rfl rfl rfl ?_
        refine ⟨_, ⟨?_, ?_, ?_⟩, rfl⟩
        · simp only [vx_play, vx_do]; rw [if_pos hb]; exact dX2
        · exact dL1.kp hf2 (fun j h1 h2 => by simp only [vb_xc] at h2; omega)
        · intro a ha
          have n1 : ¬ vb_scr L a := fun h => ha (Or.inl h)
          have n2 : ¬ vb_xc X a := fun h => ha (Or.inr h)
          rw [hf2 a n2, hf1 a n1]
      · intro h8; exact absurd hb1 h8
    · refine mm_wiceq ?_ ?_
      · intro h8; exact absurd h8 hb1
      · intro h8
        refine mm_w1 rfl ?_
        refine mm_w1 rfl ?_
        refine mm_w1 rfl ?_
        rw [hb4]
        refine mm_cvn (vb_cv (vX_S0 hX) rfl rfl rfl rfl) (by decide) (by omega) (c_bring hX dX1 (by omega) (by omega) (by omega)) ?_
        intro I2 hq
        obtain ⟨dX2, hf2⟩ := hq
        have dL2 : vb_LD ℓ L I2 := dL1.kp hf2 (fun j h1 h2 => by simp only [vb_xc] at h2; omega)
        refine mm_w1 rfl ?_
        refine mm_w1 rfl ?_
        refine mm_cvn (vb_cv (vX_S0 hX) rfl rfl rfl rfl) (by decide) (by omega) (c_end hX hL dX2 dL2 (by omega) (by omega) he) ?_
        intro I3 hq3
        obtain ⟨dX3, hf3⟩ := hq3 
        refine mm_w1 rfl ?_
        refine mm_wr rfl rfl rfl ?_
        refine ⟨_, ⟨?_, ?_, ?_⟩, rfl⟩
        · simp only [vx_play, vx_do]; rw [if_neg (by omega : ¬ vx_by ℓ x = 100)]; exact dX3
        · exact dL2.kp hf3 (fun j h1 h2 => by simp only [vb_xc] at h2; omega)
        · intro a ha
          have n1 : ¬ vb_scr L a := fun h => ha (Or.inl h)
          have n2 : ¬ vb_xc X a := fun h => ha (Or.inr h)
          rw [hf3 a n2, hf2 a n2, hf1 a n1] 
  have loop : ∀ r, r < vb_sc ℓ → vx_y x (vx_tn x) = vb_i r → ¬ vx_y x (vx_tn x) = -1 → ∀ i, i ≤ (vx_ms ℓ x).length → ∀ (I1 : Nat → Nat → Int32) (x9 : Value), x9.category = 1 → vb_fr (vb_scr L) I I1 → (∀ j z, (vx_ms ℓ x)[j]? = some z → I1 (L + 5) j = vb_i (vb_mv z)) → mm_W G d 40 (mm_blk 40 58) [.ref X, .ref L, .int (vb_i (vx_tn x)), .int (vx_s x (vx_tn x)), .int (vx_s x (1 - vx_tn x)), .int (vb_told (vx_pick (vx_g ℓ x) ((vx_ms ℓ x).take i) (100, 0)).1), .int (vx_pick (vx_g ℓ x) ((vx_ms ℓ x).take i) (100, 0)).2, .int (vb_i (vx_ms ℓ x).length), .int (vb_i i), x9] [] (I1, P, J, S, nc, ns) (vb_R (some (.int (vb_told (vx_by ℓ x)))) (fun I' => vb_XD (vx_play ℓ x) X I' ∧ vb_LD ℓ L I' ∧ vb_fr (vb_pc L X) I I') P J S nc ns) := by
    intro r hr hy hm1
    refine vb_down (vx_ms ℓ x).length ?_
    intro i hi ih I1 x9 h9 hf1 hmv
    have dL1 := dL.fr hf1
    have dX1 : vb_XD x X I1 := dX.fr hf1 (fun j h1 h2 => by simp only [vb_scr] at h2; omega)
    have hr3 := vl_sc3 dL
    have hyn : (vx_y x (vx_tn x)).toNatClampNeg = r := by rw [hy, vb_nat (by omega)]
    refine mm_w1 rfl ?_
    refine mm_w1 rfl ?_
    refine mm_nicge (by omega) (by omega) ?_ ?_
    · intro h62
      have e : i = (vx_ms ℓ x).length := by omega
      subst e
      exact tail I1 _ _ _ _ _ (by simp only [vx_by]; rw [if_neg hm1, List.take_length]) hf1
    · intro h62
      have hin : i < (vx_ms ℓ x).length := by omega
      have hz : (vx_ms ℓ x)[i]? = some (vx_ms ℓ x)[i] := List.getElem?_eq_getElem hin
      obtain ⟨hz1, hz2, hz3⟩ := vb_ms_lt (List.getElem_mem hin)
      have htk : (vx_ms ℓ x).take (i + 1) = (vx_ms ℓ x).take i ++ [(vx_ms ℓ x)[i]] := by rw [List.take_add_one, hz]; rfl
      have hpk : vx_pick (vx_g ℓ x) ((vx_ms ℓ x).take (i + 1)) (100, 0) = if (vx_pick (vx_g ℓ x) ((vx_ms ℓ x).take i) (100, 0)).2 < vx_g ℓ x (vx_ms ℓ x)[i] then ((vx_ms ℓ x)[i], vx_g ℓ x (vx_ms ℓ x)[i]) else vx_pick (vx_g ℓ x) ((vx_ms ℓ x).take i) (100, 0) := by
        rw [htk]; simp only [vx_pick, List.foldl_append, List.foldl_cons, List.foldl_nil]; rfl
      have hI5 := hmv i _ hz
      refine mm_w1 rfl ?_
      refine mm_w1 rfl ?_
      refine mm_w1 rfl ?_
      refine mm_w1 rfl ?_
      refine mm_wgr (vX_S0 hX) (by decide) (by decide) (vX_P0_1 hX) (vX_a2 hX) ?_
      refine mm_w1 rfl ?_
      refine mm_wiav _ (vX_a2 hX) (vX_S2 hX) (by decide) (by omega) (vx_hf dX1 (by omega)) ?_
      refine mm_w1 rfl ?_
      refine mm_wgr (vL_S0 hL) (by decide) (by decide) (vL_P0_8 hL) (vL_a5 hL) ?_
      refine mm_w1 rfl ?_
      refine mm_wiav _ (vL_a5 hL) (vL_S5 hL) (by decide) (by omega) (by first | exact hI5 | exact hI53) ?_
      refine mm_w1 rfl ?_
      refine mm_wgiv _ (vX_S0 hX) (by decide) (by decide) (vx_he dX1) ?_
      refine mm_cvn (vb_cv (vL_S0 hL) rfl rfl rfl rfl) (by decide) (by omega) (c_setv (ℓ := ℓ) hL dL1 (by omega) hz2 hz3) ?_
      intro I2 hq
      obtain ⟨hv2, hf2⟩ := hq
      have dL2 := dL1.fr (vb_scr_of hf2 vs_10)
      have dX2 : vb_XD x X I2 := dX1.fr (vb_scr_of hf2 vs_10) (fun j h1 h2 => by simp only [vb_scr] at h2; omega) 
      refine mm_w1 rfl ?_
      refine mm_wgr (vL_S0 hL) (by decide) (by decide) (vL_P0_9 hL) (vL_a6 hL) ?_
      refine mm_w1 rfl ?_
      refine mm_wgr (vX_S0 hX) (by decide) (by decide) (vX_P0_3 hX) (vX_a4 hX) ?_
      refine mm_w1 rfl ?_
      refine mm_wiav _ (vX_a4 hX) (vX_S4 hX) (by decide) (by omega) (vx_hy dX2 (by omega)) ?_
      rw [hy]
      refine mm_cvi (vb_cv (vL_S6 hL) rfl rfl rfl rfl) (by decide) (by omega) (c_give (by omega) hL (vl_style dL2 hr)) ?_
      intro I3 hf3
      have hf13 : vb_fr (vb_scr L) I I3 := (hf1.tr (vb_scr_of hf2 vs_10)).tr (vb_scr_of hf3 vs_11)
      have hI53 : I3 (L + 5) i = vb_i (vb_mv (vx_ms ℓ x)[i]) := by rw [hf3 _ (by omega), hf2 _ (by omega)]; exact hI5
      have hmv3 : ∀ j z, (vx_ms ℓ x)[j]? = some z → I3 (L + 5) j = vb_i (vb_mv z) := by intro j z hjz; rw [hf3 _ (by omega), hf2 _ (by omega)]; exact hmv j z hjz
      rw [(vl_style dL2 hr).cg _ _ hv2]
      have hg : vb_ru ℓ r (vb_val ℓ (vx_s x (vx_tn x)) (vx_s x (1 - vx_tn x)) (vx_f x (vx_tn x)) ((vx_ms ℓ x)[i] / 10) ((vx_ms ℓ x)[i] % 10) (vb_i (vx_e x))) = vx_g ℓ x (vx_ms ℓ x)[i] := by simp only [vx_g, hyn]
      rw [hg] 
      refine mm_w1 (ls' := [_, _, _, _, _, _, _, _, _, _]) rfl ?_
      refine mm_w1 rfl ?_
      refine mm_w1 rfl ?_
      refine mm_wicle ?_ ?_
      · intro h108
        refine mm_nincL (ls' := [_, _, _, _, _, _, _, _, _, _]) 1 rfl (by decide) rfl ?_
        refine mm_wgoto ?_
        have ih := ih (by omega) I3 (.int (vx_g ℓ x (vx_ms ℓ x)[i])) rfl hf13 hmv3
        rw [hpk] at ih
        first
          | (rw [if_pos h108] at ih; rw [vb_told_lt hz1] at ih; exact ih)
          | (rw [if_neg h108] at ih; exact ih)
      · intro h108
        refine mm_w1 rfl ?_
        refine mm_w1 (ls' := [_, _, _, _, _, _, _, _, _, _]) rfl ?_
        refine mm_w1 rfl ?_
        refine mm_wgr (vL_S0 hL) (by decide) (by decide) (vL_P0_8 hL) (vL_a5 hL) ?_
        refine mm_w1 rfl ?_
        refine mm_wiav _ (vL_a5 hL) (vL_S5 hL) (by decide) (by omega) (by first | exact hI5 | exact hI53) ?_
        refine mm_w1 (ls' := [_, _, _, _, _, _, _, _, _, _]) rfl ?_
        refine mm_nincL (ls' := [_, _, _, _, _, _, _, _, _, _]) 1 rfl (by decide) rfl ?_
        refine mm_wgoto ?_
        have ih := ih (by omega) I3 (.int (vx_g ℓ x (vx_ms ℓ x)[i])) rfl hf13 hmv3
        rw [hpk] at ih
        first
          | (rw [if_pos h108] at ih; rw [vb_told_lt hz1] at ih; exact ih)
          | (rw [if_neg h108] at ih; exact ih) 
  show mm_W _ _ 40 (mm_blk 40 0) [.ref X, .ref L, .null, .null, .null, .null, .null, .null, .null, .null] [] _ _
  refine mm_w1 rfl ?_
  refine mm_cvp (vb_cv (vX_S0 hX) rfl rfl rfl rfl) (by decide) (by omega) (c_turn hX dX) ?_
  refine mm_w1 (ls' := [_, _, _, _, _, _, _, _, _, _]) rfl ?_
  refine mm_w1 rfl ?_
  refine mm_wgr (vX_S0 hX) (by decide) (by decide) (vX_P0_0 hX) (vX_a1 hX) ?_
  refine mm_w1 rfl ?_
  refine mm_wiav _ (vX_a1 hX) (vX_S1 hX) (by decide) (by omega) (vx_hs dX (by omega)) ?_
  refine mm_w1 (ls' := [_, _, _, _, _, _, _, _, _, _]) rfl ?_
  refine mm_w1 rfl ?_
  refine mm_wgr (vX_S0 hX) (by decide) (by decide) (vX_P0_0 hX) (vX_a1 hX) ?_
  refine mm_wv (vb_i 1) rfl (by decide) ?_
  refine mm_w1 rfl ?_
  refine mm_nsub (by omega) ?_
  refine mm_wiav _ (vX_a1 hX) (vX_S1 hX) (by decide) (by omega) (vx_hs dX (by omega)) ?_
  refine mm_w1 (ls' := [_, _, _, _, _, _, _, _, _, _]) rfl ?_
  refine mm_wv (-1) rfl (by decide) ?_
  refine mm_w1 (ls' := [_, _, _, _, _, _, _, _, _, _]) rfl ?_
  refine mm_wv (vb_i 0) rfl (by decide) ?_
  refine mm_w1 (ls' := [_, _, _, _, _, _, _, _, _, _]) rfl ?_
  refine mm_w1 rfl ?_
  refine mm_wgr (vX_S0 hX) (by decide) (by decide) (vX_P0_3 hX) (vX_a4 hX) ?_
  refine mm_w1 rfl ?_
  refine mm_wiav _ (vX_a4 hX) (vX_S4 hX) (by decide) (by omega) (vx_hy dX (by omega)) ?_
  refine mm_wv (-1) rfl (by decide) ?_
  refine mm_wicne ?_ ?_
  · intro h35
    refine mm_w1 rfl ?_
    refine mm_w1 rfl ?_
    refine mm_w1 rfl ?_
    refine mm_w1 rfl ?_
    refine mm_wgiv _ (vX_S0 hX) (by decide) (by decide) (vx_he dX) ?_
    refine mm_cvi (vb_cv (vL_S0 hL) rfl rfl rfl rfl) (by decide) (by omega) (c_list (ℓ := ℓ) hL dL (by omega)) ?_
    intro I1 hq
    obtain ⟨hf1, hm1⟩ := hq 
    refine mm_w1 (ls' := [_, _, _, _, _, _, _, _, _, _]) rfl ?_
    refine mm_wv (vb_i 0) rfl (by decide) ?_
    refine mm_w1 (ls' := [_, _, _, _, _, _, _, _, _, _]) rfl ?_
    rcases hok _ ht with hy | ⟨r, hr, hy⟩
    · exact absurd hy h35
    · exact loop r hr hy h35 0 (by omega) I1 _ rfl hf1 hm1
  · intro h35
    refine mm_wv (vb_i 0) rfl (by decide) ?_
    refine mm_wgoto ?_
    refine mm_w1 (ls' := [_, _, _, _, _, _, _, _, _, _]) rfl ?_
    refine mm_wv (vb_i 0) rfl (by decide) ?_
    refine mm_w1 (ls' := [_, _, _, _, _, _, _, _, _, _]) rfl ?_
    refine mm_w1 rfl ?_
    refine mm_w1 rfl ?_
    refine mm_nicge (by omega) (by omega) ?_ ?_
    · intro h62
      exact tail I _ _ 0 0 _ (by simp only [vx_by]; rw [if_pos h35]; rfl) vb_fr.rf
    · intro h62
      exact absurd h62 (by omega) 
end POS2
