def q_lt1 (ℓ : vb_L) (x : vb_X) (m : Nat) (a : Int64) (m' : Nat) : Int64 := if m' = m then a else (if (vx_g ℓ x m').toInt64 + (if m' < m then 1 else 0) < a then a else (vx_g ℓ x m').toInt64 + (if m' < m then 1 else 0))
def q_ltw (ℓ : vb_L) (x : vb_X) (m : Nat) : Int64 := (vx_ms ℓ x).foldl (q_lt1 ℓ x m) 1
def q_gift (ℓ : vb_L) (x : vb_X) (m : Nat) : Int32 := if 0 < lg_cmp (q_ltw ℓ x m - (vx_g ℓ x m).toInt64) 0 then (if 0 < lg_cmp (q_ltw ℓ x m - (vx_g ℓ x m).toInt64) (9999 : Int32).toInt64 then -1 else (q_ltw ℓ x m - (vx_g ℓ x m).toInt64).toInt32) else 0
def q_win (ℓ : vb_L) (x : vb_X) : Int32 := if vx_s x (1 - vx_tn x) = 0 then -1 else if vb_fw ℓ 1 true (vx_s x (vx_tn x)) (vx_s x (1 - vx_tn x)) (vb_i (vx_e x)) then vb_i 1 else if vb_fw ℓ 3 true (vx_s x (vx_tn x)) (vx_s x (1 - vx_tn x)) (vb_i (vx_e x)) then vb_i 3 else -1
def q_free (ℓ : vb_L) (x : vb_X) : Int32 := vb_set (vb_n ℓ) (fun v => !vb_has (vx_s x 0 ||| vx_s x 1) v)
def q_jn (ℓ : vb_L) (g : Int32) (to : Nat) : Nat → Nat → Int32 → Int32
  | 0, _, _ => -1
  | k + 1, i, r => if vb_has r to then vb_i i else q_jn ℓ g to k (i + 1) (r ||| (vb_bes ℓ r &&& g))
def q_tr (ℓ : vb_L) (x : vb_X) (v : Nat) : Nat → Nat → Int32
  | 0, _ => -1
  | r + 1, k => if vx_in (vx_f (vx_seq ℓ x k)) v = vx_in (vx_f x) v then q_tr ℓ x v r (k + 1) else vb_i k
def q_plant (ℓ : vb_L) (x : vb_X) (v k : Nat) : Int32 := if vx_in (vx_s x) v = 2 then -1 else
  let o := vx_s x (vx_in (vx_s x) v)
  let f := vx_s x (1 - vx_in (vx_s x) v)
  let tk := vb_cnt 10 (vb_has (vb_tk ℓ o f v (vb_i (vx_e x))))
  let al := (vb_ms ℓ f o (vb_i (vx_e x))).length + 1
  if k = 0 then vb_i tk else if k = 1 then vb_i al else if vb_i 2 * vb_i al < vb_i 6 * (vb_i al - vb_i tk) then vb_i 1 else vb_i 0
def sp_look (σ : vb_St) (k w : Int32) : Int32 ⊕ Nat := match vb_idx 2 w with
  | none => .inr 0
  | some w => match vb_idx 4 k with
    | none => .inr 1
    | some k => .inl (if w = 0 then q_li (vs_l σ) (vs_x σ) (vx_tn (vs_x σ)) k else if k = 0 then -1 else vb_told (q_bm (vs_l σ) (vs_x σ) (k - 1)))
def sp_win (σ : vb_St) : Int32 ⊕ Nat := .inl (q_win (vs_l σ) (vs_x σ))
def sp_journey (σ : vb_St) (a b : Int32) : Int32 ⊕ Nat := match vb_idx (vb_n (vs_l σ)) a with
  | none => .inr 0
  | some a => match vb_idx (vb_n (vs_l σ)) b with
    | none => .inr 0
    | some b => .inl (if vx_in (vx_s (vs_x σ)) a = 2 then -1 else q_jn (vs_l σ) (q_free (vs_l σ) (vs_x σ)) b 10 0 (vb_bit a))
def sp_played (σ : vb_St) (i : Int32) : Int32 ⊕ Nat := match vb_idx 30 i with
  | none => .inr 0
  | some i => .inl (vb_told (vx_mvs (vs_l σ) (vs_x σ) i))
def sp_turned (σ : vb_St) (v : Int32) : Int32 ⊕ Nat := match vb_idx (vb_n (vs_l σ)) v with
  | none => .inr 0
  | some v => .inl (q_tr (vs_l σ) (vs_x σ) v 30 1)
def sp_treasury (σ : vb_St) (s k : Int32) : Int32 ⊕ Nat := match vb_idx 2 s with
  | none => .inr 0
  | some s => match vb_idx 31 k with
    | none => .inr 1
    | some k => .inl (vx_t (vx_seq (vs_l σ) (vs_x σ) k) s)
def sp_gift (σ : vb_St) (a b : Int32) : Int32 ⊕ Nat := match vb_idx (vb_n (vs_l σ)) a with
  | none => .inr 0
  | some a => match vb_idx (vb_n (vs_l σ)) b with
    | none => .inr 0
    | some b => .inl (if vx_y (vs_x σ) (vx_tn (vs_x σ)) = -1 then -1 else if q_mayT (vs_l σ) (vs_x σ) a b then q_gift (vs_l σ) (vs_x σ) (10 * a + b) else -1)
def sp_plant (σ : vb_St) (v w : Int32) : Int32 ⊕ Nat := match vb_idx (vb_n (vs_l σ)) v with
  | none => .inr 0
  | some v => match vb_idx 3 w with
    | none => .inr 0
    | some k => .inl (q_plant (vs_l σ) (vs_x σ) v k)
theorem vb_idx_no {n : Nat} {v : Int32} (h : vb_idx n v = none) {q : Prop} (h0 : ¬ v < 0) (h1 : v < vb_i n) : q := by
  rcases vb_idx_none h with h | ⟨_, h⟩
  · exact absurd h h0
  · exact absurd h1 h
theorem vb_lt_le {v : Int32} {n : Nat} (hn : n + 1 < 2 ^ 31) (h : ¬ vb_i n < v) : v < vb_i (n + 1) := by
  rw [Int32.lt_iff_toInt_lt, vb_toInt (by omega)] at h
  rw [Int32.lt_iff_toInt_lt, vb_toInt (by omega)]
  omega
section AHEAD3
variable {G : mm_G} {d : Nat} {I : Nat → Nat → Int32} {P : Nat → Nat → Nat} {J : Nat → Nat → Int64} {S : List (Nat × Nat)} {nc ns : Nat} {μ : mm_M} {σ : vb_St} {L : Nat}
theorem c_ltw (hV : vb_isV P S L) (dV : vb_VD σ L I) {m : Nat} (hm : m < 100) (hok : vx_ok (vs_l σ) (vs_x σ)) (hy : ¬ vx_y (vs_x σ) (vx_tn (vs_x σ)) = -1) (hd : 6 ≤ d) : mm_C G d 134 [.ref 0, .int (vb_i (100 * (m / 10) + m % 10))] (I, P, J, S, nc, ns) (vb_R (some (.long (q_ltw (vs_l σ) (vs_x σ) m))) (fun I' => vb_fr (vb_vs L) I I') P J S nc ns) := by
  have hL := vV_hL hV
  have hX := vV_hX hV
  have hY := vV_hY hV
  have hA := vV_hA hV
  have hT := vV_hT hV
  have hC := vV_hC hV
  have hL17 := vV_L17 hV
  have hF : vb_fr (vb_vs L) I I := vb_fr.rf
  have dL := vd_l dV
  have dX := vd_x dV
  have dA := vd_a dV
  have dT := vd_t dV
  have hn := vl_10 dL
  have he := vx_e2 dX
  have ht := vx_t2 (vs_x σ)
  have hlen : (vx_ms (vs_l σ) (vs_x σ)).length ≤ 36 := vb_ms_len hn (vl_deg dL)
  have loop := vb_down (p := fun i => ∀ (I1 : Nat → Nat → Int32) (y7 y8 y9 : Value) (a : Int64), vb_fr (vb_vs L) I I1 → (∀ j z, (vx_ms (vs_l σ) (vs_x σ))[j]? = some z → I1 (L + 5) j = vb_i (vb_mv z)) → ((vx_ms (vs_l σ) (vs_x σ)).drop i).foldl (q_lt1 (vs_l σ) (vs_x σ) m) a = q_ltw (vs_l σ) (vs_x σ) m → mm_W G d 134 (mm_blk 134 49) [.ref 0, .int (vb_i (100 * (m / 10) + m % 10)), .int (vb_i (vx_tn (vs_x σ))), .long a, .null, .int (vb_i (vx_ms (vs_l σ) (vs_x σ)).length), .int (vb_i i), y7, y8, y9] [] (I1, P, J, S, nc, ns) (vb_R (some (.long (q_ltw (vs_l σ) (vs_x σ) m))) (fun I' => vb_fr (vb_vs L) I I') P J S nc ns)) (vx_ms (vs_l σ) (vs_x σ)).length (by
    intro i hi ih I1 y7 y8 y9 a hF1 hmv heq
    have dV1 := dV.fr hL17 hF1
    have dL1 := vd_l dV1
    have dX1 := vd_x dV1
    refine mm_w1 rfl ?_
    refine mm_w1 rfl ?_
    refine mm_nicge (by omega) (by omega) ?_ ?_
    · intro h53
      refine mm_w1 rfl ?_
      refine mm_wr rfl rfl rfl ?_
      rw [List.drop_eq_nil_of_le (by omega)] at heq
      refine ⟨_, hF1, ?_⟩
      rw [← heq]; rfl
    · intro h53
      have hz : (vx_ms (vs_l σ) (vs_x σ))[i]? = some (vx_ms (vs_l σ) (vs_x σ))[i] := List.getElem?_eq_getElem h53
      obtain ⟨hz1, hz2, hz3⟩ := vb_ms_lt (List.getElem_mem h53)
      have hI5 : I1 (L + 5) i = vb_i (100 * ((vx_ms (vs_l σ) (vs_x σ))[i] / 10) + (vx_ms (vs_l σ) (vs_x σ))[i] % 10) := hmv i _ hz
      rw [List.drop_eq_getElem_cons h53, List.foldl_cons] at heq
      refine mm_w1 rfl ?_
      refine mm_wgr (vV_S0 hV) (by decide) (by decide) (vV_P0_5 hV) (vL_a0 hL) ?_
      refine mm_wgr (vL_S0 hL) (by decide) (by decide) (vL_P0_8 hL) (vL_a5 hL) ?_
      refine mm_w1 rfl ?_
      refine mm_wiav _ (vL_a5 hL) (vL_S5 hL) (by decide) (by omega) hI5 ?_
      refine mm_w1 (ls' := [_, _, _, _, _, _, _, _, _, _]) rfl ?_
      refine mm_w1 rfl ?_
      refine mm_w1 rfl ?_
      refine mm_niceq (by omega) (by omega) ?_ ?_
      · intro h71
        refine mm_nincL (ls' := [_, _, _, _, _, _, _, _, _, _]) 1 rfl (by decide) rfl ?_
        refine mm_wgoto ?_
        rw [show q_lt1 (vs_l σ) (vs_x σ) m a (vx_ms (vs_l σ) (vs_x σ))[i] = a from if_pos (by omega)] at heq
        exact ih (by omega) I1 _ _ _ a hF1 hmv heq
      · intro h71
        have hne : ¬ (vx_ms (vs_l σ) (vs_x σ))[i] = m := fun h => h71 (by rw [h])
        refine mm_w1 rfl ?_
        refine mm_w1 rfl ?_
        refine mm_nicge (by omega) (by omega) ?_ ?_
        · intro h77
          refine mm_w1 rfl ?_
          refine mm_w1 (ls' := [_, _, _, _, _, _, _, _, _, _]) rfl ?_
          refine mm_w1 rfl ?_
          refine mm_w1 rfl ?_
          refine mm_w1 rfl ?_
          refine mm_cvi (vb_cv (vV_S0 hV) rfl rfl rfl rfl) (by decide) (by omega) (c_gives (σ := σ) hV dV1 hz1 hz2 hz3 hok hy (by omega)) ?_
          intro I2 hf2
          have h52 : I2 (L + 5) = I1 (L + 5) := hf2 _ (by simp only [vb_sc2]; omega)
          have hF2 : vb_fr (vb_vs L) I I2 := hF1.tr (hf2.mono (fun a h => by exact Or.inl (Or.inr h)))
          have dV2 := dV.fr hL17 hF2
          have dL2 := vd_l dV2
          have dX2 := vd_x dV2
          refine mm_w1 rfl ?_
          refine mm_w1 rfl ?_
          refine mm_w1 rfl ?_
          refine mm_w1 rfl ?_
          refine mm_w1 (ls' := [_, _, _, _, _, _, _, _, _, _]) rfl ?_
          refine mm_nincL (ls' := [_, _, _, _, _, _, _, _, _, _]) 1 rfl (by decide) rfl ?_
          refine mm_wgoto ?_
          refine ih (by omega) I2 _ _ _ _ hF2 (fun j z hj => by rw [h52]; exact hmv j z hj) ?_
          rw [← heq]
          congr 1
          rw [q_lt1, if_neg hne]
          first
            | rw [if_pos (show (vx_ms (vs_l σ) (vs_x σ))[i] < m by omega)]
            | rw [if_neg (show ¬ (vx_ms (vs_l σ) (vs_x σ))[i] < m by omega)]
          rfl
        · intro h77
          refine mm_w1 rfl ?_
          refine mm_wgoto ?_
          refine mm_w1 (ls' := [_, _, _, _, _, _, _, _, _, _]) rfl ?_
          refine mm_w1 rfl ?_
          refine mm_w1 rfl ?_
          refine mm_w1 rfl ?_
          refine mm_cvi (vb_cv (vV_S0 hV) rfl rfl rfl rfl) (by decide) (by omega) (c_gives (σ := σ) hV dV1 hz1 hz2 hz3 hok hy (by omega)) ?_
          intro I2 hf2
          have h52 : I2 (L + 5) = I1 (L + 5) := hf2 _ (by simp only [vb_sc2]; omega)
          have hF2 : vb_fr (vb_vs L) I I2 := hF1.tr (hf2.mono (fun a h => by exact Or.inl (Or.inr h)))
          have dV2 := dV.fr hL17 hF2
          have dL2 := vd_l dV2
          have dX2 := vd_x dV2
          refine mm_w1 rfl ?_
          refine mm_w1 rfl ?_
          refine mm_w1 rfl ?_
          refine mm_w1 rfl ?_
          refine mm_w1 (ls' := [_, _, _, _, _, _, _, _, _, _]) rfl ?_
          refine mm_nincL (ls' := [_, _, _, _, _, _, _, _, _, _]) 1 rfl (by decide) rfl ?_
          refine mm_wgoto ?_
          refine ih (by omega) I2 _ _ _ _ hF2 (fun j z hj => by rw [h52]; exact hmv j z hj) ?_
          rw [← heq]
          congr 1
          rw [q_lt1, if_neg hne]
          first
            | rw [if_pos (show (vx_ms (vs_l σ) (vs_x σ))[i] < m by omega)]
            | rw [if_neg (show ¬ (vx_ms (vs_l σ) (vs_x σ))[i] < m by omega)]
          rfl  
    )
  show mm_W _ _ 134 (mm_blk 134 0) [.ref 0, .int (vb_i (100 * (m / 10) + m % 10)), .null, .null, .null, .null, .null, .null, .null, .null] [] _ _
  refine mm_w1 rfl ?_
  refine mm_wgr (vV_S0 hV) (by decide) (by decide) (vV_P0_6 hV) (vX_a0 hX) ?_
  refine mm_cvp (vb_cv (vX_S0 hX) rfl rfl rfl rfl) (by decide) (by omega) (c_turn hX dX) ?_
  refine mm_w1 (ls' := [_, _, _, _, _, _, _, _, _, _]) rfl ?_
  refine mm_w1 rfl ?_
  refine mm_w1 (ls' := [_, _, _, _, _, _, _, _, _, _]) rfl ?_
  refine mm_w1 rfl ?_
  refine mm_wgr (vV_S0 hV) (by decide) (by decide) (vV_P0_5 hV) (vL_a0 hL) ?_
  refine mm_w1 rfl ?_
  refine mm_wgr (vV_S0 hV) (by decide) (by decide) (vV_P0_6 hV) (vX_a0 hX) ?_
  refine mm_wgr (vX_S0 hX) (by decide) (by decide) (vX_P0_0 hX) (vX_a1 hX) ?_
  refine mm_w1 rfl ?_
  refine mm_wiav _ (vX_a1 hX) (vX_S1 hX) (by decide) (by omega) (vx_hs dX (by omega)) ?_
  refine mm_w1 rfl ?_
  refine mm_wgr (vV_S0 hV) (by decide) (by decide) (vV_P0_6 hV) (vX_a0 hX) ?_
  refine mm_wgr (vX_S0 hX) (by decide) (by decide) (vX_P0_0 hX) (vX_a1 hX) ?_
  refine mm_wv (vb_i 1) rfl (by decide) ?_
  refine mm_w1 rfl ?_
  refine mm_nsub (by omega) ?_
  refine mm_wiav _ (vX_a1 hX) (vX_S1 hX) (by decide) (by omega) (vx_hs dX (by omega)) ?_
  refine mm_w1 rfl ?_
  refine mm_wgr (vV_S0 hV) (by decide) (by decide) (vV_P0_6 hV) (vX_a0 hX) ?_
  refine mm_wgiv _ (vX_S0 hX) (by decide) (by decide) (vx_he dX) ?_
  refine mm_cvi (vb_cv (vL_S0 hL) rfl rfl rfl rfl) (by decide) (by omega) (c_list (ℓ := vs_l σ) hL dL (by omega)) ?_
  intro I1 hq1
  obtain ⟨hf1, hm1⟩ := hq1
  have hF1 : vb_fr (vb_vs L) I I1 := hF.tr (hf1.mono (fun a h => by exact Or.inl h))
  have dV1 := dV.fr hL17 hF1
  have dL1 := vd_l dV1
  have dX1 := vd_x dV1
  refine mm_w1 (ls' := [_, _, _, _, _, _, _, _, _, _]) rfl ?_
  refine mm_wv (vb_i 0) rfl (by decide) ?_
  refine mm_w1 (ls' := [_, _, _, _, _, _, _, _, _, _]) rfl ?_
  exact loop 0 (by omega) I1 _ _ _ _ hF1 hm1 rfl
end AHEAD3
