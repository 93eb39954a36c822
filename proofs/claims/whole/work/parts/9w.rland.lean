/-! THE CLASS'S READER: a land that grows -/
def pl_R (co : List Int32) (sa en : Nat → Int32) (r : Nat) (c : List (Nat × Int32)) : Prop := ∃ st, sa r = vb_i st ∧ en r = vb_i (st + px_cl c) ∧ st + px_cl c ≤ co.length ∧ ∀ j, j < px_cl c → co.getD (st + j) 0 = (px_cc c).getD j 0
def pl_C (L : Nat) (p : pl_S) (C : List Int32) (I : Nat → Nat → Int32) : Prop := (I L 0 = vb_i (pl_n p) ∧ I L 1 = vb_i (pl_rc p) ∧ I L 2 = vb_i (pl_sc p) ∧ I L 3 = vb_b (pl_ht p)) ∧ (∀ v, v < pl_n p → I (L + 1) v = pl_wo p v) ∧ (∀ v, v < pl_n p → I (L + 2) v = pl_fo p v) ∧ (∀ v, v < pl_n p → I (L + 3) v = pl_nb p v) ∧ (∀ j, j < 2 → I (L + 4) j = pl_fs p j) ∧ rd_C L C I ∧ (pl_ht p = true → pl_R C (I (L + 8)) (I (L + 9)) 3 (pl_ru p 3)) ∧ ∀ r, r < pl_sc p → pl_R C (I (L + 8)) (I (L + 9)) r (pl_ru p r)
def rd_g3 (I I' : Nat → Nat → Int32) : Prop := (∀ a, a ≠ 3 → I' a = I a) ∧ ∀ q, q < 3 → I' 3 q = I 3 q
theorem rd_g3.of3 {I I' : Nat → Nat → Int32} (h : rd_f3 I I') : rd_g3 I I' := ⟨h.1, fun q hq => h.2 q (by omega)⟩
theorem rd_g3.ofr {I I' : Nat → Nat → Int32} {v : Int32} (h : I' = mm_up I 3 3 v) : rd_g3 I I' := by
  subst h
  exact ⟨fun a h1 => vb_up3 _ _ h1, fun q hq => vb_up2 _ _ (by omega)⟩
theorem rd_g3.rf {I : Nat → Nat → Int32} : rd_g3 I I := ⟨fun _ _ => rfl, fun _ _ => rfl⟩
theorem rd_g3.tr {I I' I'' : Nat → Nat → Int32} (h : rd_g3 I I') (h' : rd_g3 I' I'') : rd_g3 I I'' := ⟨fun a h1 => (h'.1 a h1).trans (h.1 a h1), fun q hq => (h'.2 q hq).trans (h.2 q hq)⟩
/-- all that reading changes -/
def rd_fl (L : Nat) (I I' : Nat → Nat → Int32) : Prop := (∀ a, a ≠ 3 → ¬ (L ≤ a ∧ a < L + 12) → I' a = I a) ∧ ∀ q, q < 3 → I' 3 q = I 3 q
theorem rd_fl.rf {L : Nat} {I : Nat → Nat → Int32} : rd_fl L I I := ⟨fun _ _ _ => rfl, fun _ _ => rfl⟩
theorem rd_fl.tr {L : Nat} {I I' I'' : Nat → Nat → Int32} (h : rd_fl L I I') (h' : rd_fl L I' I'') : rd_fl L I I'' := ⟨fun a h1 h2 => (h'.1 a h1 h2).trans (h.1 a h1 h2), fun q hq => (h'.2 q hq).trans (h.2 q hq)⟩
theorem rd_fl.ofg {L : Nat} {I I' : Nat → Nat → Int32} (h : rd_g3 I I') : rd_fl L I I' := ⟨fun a h1 _ => h.1 a h1, h.2⟩
theorem rd_fl.ofx {L : Nat} {I I' : Nat → Nat → Int32} (h : rd_fx L I I') : rd_fl L I I' := ⟨fun a h1 h2 => h.1 a h1 (by omega) (by omega), h.2⟩
theorem rd_fl.ofl {L : Nat} {I I' : Nat → Nat → Int32} (h : ∀ a, ¬ (L ≤ a ∧ a < L + 12) → I' a = I a) (hL : 5 ≤ L) : rd_fl L I I' := ⟨fun a _ h2 => h a h2, fun q _ => by rw [h 3 (by omega)]⟩
theorem pl_C.g3 {L : Nat} {p : pl_S} {C : List Int32} {I I' : Nat → Nat → Int32} (h : pl_C L p C I) (hf : rd_g3 I I') (hL : 5 ≤ L) : pl_C L p C I' := by
  have e : ∀ k, I' (L + k) = I (L + k) := fun k => hf.1 _ (by omega)
  obtain ⟨h1, h2, h3, h4, h5, h6, h7, h8⟩ := h
  refine ⟨?_, ?_, ?_, ?_, ?_, h6.fr (e 6) (e 7), ?_, ?_⟩
  · rw [hf.1 L (by omega)]; exact h1
  · rw [e 1]; exact h2
  · rw [e 2]; exact h3
  · rw [e 3]; exact h4
  · rw [e 4]; exact h5
  · rw [e 8, e 9]; exact h7
  · rw [e 8, e 9]; exact h8
theorem pl_R.app {co co' : List Int32} {sa en : Nat → Int32} {r : Nat} {c : List (Nat × Int32)} (h : pl_R co sa en r c) : pl_R (co ++ co') sa en r c := by
  obtain ⟨st, h1, h2, h3, h4⟩ := h
  refine ⟨st, h1, h2, by rw [List.length_append]; omega, fun j hj => ?_⟩
  rw [← h4 j hj, List.getD_eq_getElem?_getD, List.getD_eq_getElem?_getD, List.getElem?_append_left (by omega)]
theorem rd_D.g3 {b : Nat → Int32} {n : Nat} {I I' : Nat → Nat → Int32} (h : rd_D b n I) (hf : rd_g3 I I') : rd_D b n I' := ⟨fun i hi => by rw [hf.1 1 (by decide)]; exact h.1 i hi, by rw [hf.2 1 (by decide)]; exact h.2.1, h.2.2⟩
theorem rd_D.fl {b : Nat → Int32} {n L : Nat} {I I' : Nat → Nat → Int32} (h : rd_D b n I) (hf : rd_fl L I I') (hL : 5 ≤ L) : rd_D b n I' := ⟨fun i hi => by rw [hf.1 1 (by decide) (by omega)]; exact h.1 i hi, by rw [hf.2 1 (by decide)]; exact h.2.1, h.2.2⟩
section RD6
variable {G : mm_G} {d : Nat} {I : Nat → Nat → Int32} {P : Nat → Nat → Nat} {J : Nat → Nat → Int64} {S : List (Nat × Nat)} {nc ns : Nat} {μ : mm_M} {L : Nat} {b : Nat → Int32} {n : Nat}
def ln_z (q : (Nat × Nat) ⊕ Nat) : Int32 := match q with
  | .inl _ => -1
  | .inr v => vb_i v
def ln_P (b : Nat → Int32) (s : Nat) (q : (Nat × Nat) ⊕ Nat) (I : Nat → Nat → Int32) : Prop := match q with
  | .inl (why, pl) => I 3 3 = vb_i why ∧ I 3 4 = vb_i pl
  | .inr _ => rd_tk b (tx_N b s) I
theorem c_number {s most : Nat} (hR : vb_isR P S L) (dD : rd_D b n I) (hb : tx_ok b n) (hs : s ≤ n) (hk : rd_tk b s I) (hm : most < 1000) (hd : 2 ≤ d) : mm_C G d 50 [.ref 3, .int (vb_i most)] (I, P, J, S, nc, ns) (vb_R (some (.int (ln_z (ln_n b most s)))) (fun I' => rd_g3 I I' ∧ ln_P b s (ln_n b most s) I') P J S nc ns) := by
  have hK := tx_K_le b s
  have hV : tx_K b s = 2 → tx_Vs b s ≤ 9999 := fun h => (tx_num h).2.2
  have hg0 : rd_g3 I I := .rf
  have h60 := hk.2.2.1
  have hk0 := hk
  have dD0 := dD
  show mm_W _ _ 50 (mm_blk 50 0) [.ref 3, .int (vb_i most), .null] [] _ _
  refine mm_w1 rfl ?_
  refine mm_wgiv _ (vR_S3 hR) (by decide) (by decide) h60 ?_
  refine mm_wv (vb_i 2) rfl (by decide) ?_
  refine mm_niceq (by omega) (by omega) ?_ ?_
  · intro h5
    have hV := hV
    refine mm_w1 rfl ?_ 
    refine mm_wgiv _ (vR_S3 hR) (by decide) (by decide) h60 ?_
    refine mm_wv (vb_i 3) rfl (by decide) ?_
    refine mm_niceq (by omega) (by omega) ?_ ?_
    · intro h29
      refine mm_w1 rfl ?_
      refine mm_wv (vb_i 2) rfl (by decide) ?_
      refine mm_cvi (vb_cv (vR_S3 hR) rfl rfl rfl rfl) (by decide) (by omega) (c_refuse hR) ?_
      intro I1 hI1
      have hg1 : rd_g3 I I1 := hg0.tr (.ofr hI1)
      have hw1 := (congrFun (congrFun hI1 3) 3).trans (vb_up1 _ _ _ _)
      have hp1 := (congrFun (congrFun hI1 3) 4).trans ((vb_up2 _ _ (by decide)).trans hk0.1)
      refine mm_w1 rfl ?_
      refine mm_wv (-1) rfl (by decide) ?_
      refine mm_wr rfl rfl rfl ?_
      rw [show ln_n b most s = .inl (2, s) by
        rw [ln_n]
        by_cases e2 : tx_K b s = 2
        · rw [if_pos e2, if_neg (by omega)]
        · rw [if_neg e2, if_pos (by omega)]]
      exact ⟨_, ⟨hg1, hw1, hp1⟩, rfl⟩
    · intro h29
      have hV9 := hV (by omega)
      refine mm_w1 rfl ?_ 
      refine mm_wgiv (vb_i (tx_Vs b s)) (vR_S3 hR) (by decide) (by decide) (hk0.2.2.2 (by omega)) ?_
      refine mm_w1 rfl ?_
      refine mm_nicle (by omega) (by omega) ?_ ?_
      · intro h37
        refine mm_w1 rfl ?_
        refine mm_wgiv (vb_i (tx_Vs b s)) (vR_S3 hR) (by decide) (by decide) (hk0.2.2.2 (by omega)) ?_
        refine mm_w1 (ls' := [_, _, _]) rfl ?_
        refine mm_w1 rfl ?_
        refine mm_cvn (vb_cv (vR_S3 hR) rfl rfl rfl rfl) (by decide) (by omega) (c_next hR dD0 hb (tx_E_n hb (by omega)) hk0.2.1 (by omega)) ?_
        intro I1 hq1
        obtain ⟨hkS1, hf31⟩ := hq1
        have hk1 : rd_tk b (tx_N b _) I1 := hkS1
        have hg1 : rd_g3 I I1 := hg0.tr (.of3 hf31)
        refine mm_w1 rfl ?_
        refine mm_wr rfl rfl rfl ?_
        rw [show ln_n b most s = .inr (tx_Vs b s) by rw [ln_n, if_pos (by omega), if_pos (by omega)]]
        exact ⟨_, ⟨hg1, hk1⟩, rfl⟩
      · intro h37
        refine mm_w1 rfl ?_
        refine mm_wv (vb_i 2) rfl (by decide) ?_
        refine mm_cvi (vb_cv (vR_S3 hR) rfl rfl rfl rfl) (by decide) (by omega) (c_refuse hR) ?_
        intro I1 hI1
        have hg1 : rd_g3 I I1 := hg0.tr (.ofr hI1)
        have hw1 := (congrFun (congrFun hI1 3) 3).trans (vb_up1 _ _ _ _)
        have hp1 := (congrFun (congrFun hI1 3) 4).trans ((vb_up2 _ _ (by decide)).trans hk0.1)
        refine mm_w1 rfl ?_
        refine mm_wv (-1) rfl (by decide) ?_
        refine mm_wr rfl rfl rfl ?_
        rw [show ln_n b most s = .inl (2, s) by
          rw [ln_n]
          by_cases e2 : tx_K b s = 2
          · rw [if_pos e2, if_neg (by omega)]
          · rw [if_neg e2, if_pos (by omega)]]
        exact ⟨_, ⟨hg1, hw1, hp1⟩, rfl⟩
  · intro h5
    refine mm_w1 rfl ?_
    refine mm_wgiv _ (vR_S3 hR) (by decide) (by decide) h60 ?_
    refine mm_wv (vb_i 3) rfl (by decide) ?_
    refine mm_niceq (by omega) (by omega) ?_ ?_
    · intro h13
      have hV := hV
      refine mm_w1 rfl ?_ 
      refine mm_wgiv _ (vR_S3 hR) (by decide) (by decide) h60 ?_
      refine mm_wv (vb_i 3) rfl (by decide) ?_
      refine mm_niceq (by omega) (by omega) ?_ ?_
      · intro h29
        refine mm_w1 rfl ?_
        refine mm_wv (vb_i 2) rfl (by decide) ?_
        refine mm_cvi (vb_cv (vR_S3 hR) rfl rfl rfl rfl) (by decide) (by omega) (c_refuse hR) ?_
        intro I1 hI1
        have hg1 : rd_g3 I I1 := hg0.tr (.ofr hI1)
        have hw1 := (congrFun (congrFun hI1 3) 3).trans (vb_up1 _ _ _ _)
        have hp1 := (congrFun (congrFun hI1 3) 4).trans ((vb_up2 _ _ (by decide)).trans hk0.1)
        refine mm_w1 rfl ?_
        refine mm_wv (-1) rfl (by decide) ?_
        refine mm_wr rfl rfl rfl ?_
        rw [show ln_n b most s = .inl (2, s) by
          rw [ln_n]
          by_cases e2 : tx_K b s = 2
          · rw [if_pos e2, if_neg (by omega)]
          · rw [if_neg e2, if_pos (by omega)]]
        exact ⟨_, ⟨hg1, hw1, hp1⟩, rfl⟩
      · intro h29
        have hV9 := hV (by omega)
        refine mm_w1 rfl ?_ 
        refine mm_wgiv (vb_i (tx_Vs b s)) (vR_S3 hR) (by decide) (by decide) (hk0.2.2.2 (by omega)) ?_
        refine mm_w1 rfl ?_
        refine mm_nicle (by omega) (by omega) ?_ ?_
        · intro h37
          refine mm_w1 rfl ?_
          refine mm_wgiv (vb_i (tx_Vs b s)) (vR_S3 hR) (by decide) (by decide) (hk0.2.2.2 (by omega)) ?_
          refine mm_w1 (ls' := [_, _, _]) rfl ?_
          refine mm_w1 rfl ?_
          refine mm_cvn (vb_cv (vR_S3 hR) rfl rfl rfl rfl) (by decide) (by omega) (c_next hR dD0 hb (tx_E_n hb (by omega)) hk0.2.1 (by omega)) ?_
          intro I1 hq1
          obtain ⟨hkS1, hf31⟩ := hq1
          have hk1 : rd_tk b (tx_N b _) I1 := hkS1
          have hg1 : rd_g3 I I1 := hg0.tr (.of3 hf31)
          refine mm_w1 rfl ?_
          refine mm_wr rfl rfl rfl ?_
          rw [show ln_n b most s = .inr (tx_Vs b s) by rw [ln_n, if_pos (by omega), if_pos (by omega)]]
          exact ⟨_, ⟨hg1, hk1⟩, rfl⟩
        · intro h37
          refine mm_w1 rfl ?_
          refine mm_wv (vb_i 2) rfl (by decide) ?_
          refine mm_cvi (vb_cv (vR_S3 hR) rfl rfl rfl rfl) (by decide) (by omega) (c_refuse hR) ?_
          intro I1 hI1
          have hg1 : rd_g3 I I1 := hg0.tr (.ofr hI1)
          have hw1 := (congrFun (congrFun hI1 3) 3).trans (vb_up1 _ _ _ _)
          have hp1 := (congrFun (congrFun hI1 3) 4).trans ((vb_up2 _ _ (by decide)).trans hk0.1)
          refine mm_w1 rfl ?_
          refine mm_wv (-1) rfl (by decide) ?_
          refine mm_wr rfl rfl rfl ?_
          rw [show ln_n b most s = .inl (2, s) by
            rw [ln_n]
            by_cases e2 : tx_K b s = 2
            · rw [if_pos e2, if_neg (by omega)]
            · rw [if_neg e2, if_pos (by omega)]]
          exact ⟨_, ⟨hg1, hw1, hp1⟩, rfl⟩
    · intro h13
      refine mm_w1 rfl ?_
      refine mm_wv (vb_i 1) rfl (by decide) ?_
      refine mm_cvi (vb_cv (vR_S3 hR) rfl rfl rfl rfl) (by decide) (by omega) (c_refuse hR) ?_
      intro I1 hI1
      have hg1 : rd_g3 I I1 := hg0.tr (.ofr hI1)
      have hw1 := (congrFun (congrFun hI1 3) 3).trans (vb_up1 _ _ _ _)
      have hp1 := (congrFun (congrFun hI1 3) 4).trans ((vb_up2 _ _ (by decide)).trans hk0.1)
      refine mm_w1 rfl ?_
      refine mm_wv (-1) rfl (by decide) ?_
      refine mm_wr rfl rfl rfl ?_
      rw [show ln_n b most s = .inl (1, s) by rw [ln_n, if_neg (by omega), if_neg (by omega)]]
      exact ⟨_, ⟨hg1, hw1, hp1⟩, rfl⟩
theorem c_addV {p : pl_S} {C : List Int32} {its w f : Nat} (hL : vb_isL P S L) (hp : pl_ok p) (dP : pl_C L p C I) (hn : pl_n p < 10) (hi : its ≤ 2) : mm_C G d 15 [.ref L, .int (vb_i its), .int (vb_i w), .int (vb_i f)] (I, P, J, S, nc, ns) (vb_R none (fun I' => pl_C L (pl_addV p its w f) C I' ∧ ∀ a, ¬ (L ≤ a ∧ a < L + 12) → I' a = I a) P J S nc ns) := by
  obtain ⟨⟨q1, q2, q3, q4⟩, k1, k2, k3, k4, k5, k6, k7⟩ := dP
  have hn0 := q1
  have hnb := hp.2.2.2.1 _ (Nat.le_refl (pl_n p))
  have fin : ∀ (I1 : Nat → Nat → Int32), (∀ a, ¬ (L ≤ a ∧ a < L + 5) → I1 a = I a) → (∀ q, I1 L q = if q = 0 then vb_i (pl_n p + 1) else I L q) → (∀ j, I1 (L + 1) j = if j = pl_n p then vb_i w else I (L + 1) j) → (∀ j, I1 (L + 2) j = if j = pl_n p then vb_i f else I (L + 2) j) → (∀ j, I1 (L + 3) j = if j = pl_n p then 0 else I (L + 3) j) → (∀ j, j < 2 → I1 (L + 4) j = if j = its then I (L + 4) j ||| vb_bit (pl_n p) else I (L + 4) j) → pl_C L (pl_addV p its w f) C I1 ∧ ∀ a, ¬ (L ≤ a ∧ a < L + 12) → I1 a = I a := by
    intro I1 hf f0 f1 f2 f3 f4
    refine ⟨⟨⟨?_, ?_, ?_, ?_⟩, fun v hv => ?_, fun v hv => ?_, fun v hv => ?_, fun j hj => ?_, k5.fr (hf _ (by omega)) (hf _ (by omega)), ?_, ?_⟩, fun a ha => hf a (by omega)⟩
    · rw [f0, if_pos rfl]; rfl
    · rw [f0, if_neg (by decide)]; exact q2
    · rw [f0, if_neg (by decide)]; exact q3
    · rw [f0, if_neg (by decide)]; exact q4
    · have hv : v < pl_n p + 1 := hv
      show _ = if v = pl_n p then vb_i w else pl_wo p v
      rw [f1]; split
      · rfl
      · exact k1 v (by omega)
    · have hv : v < pl_n p + 1 := hv
      show _ = if v = pl_n p then vb_i f else pl_fo p v
      rw [f2]; split
      · rfl
      · exact k2 v (by omega)
    · have hv : v < pl_n p + 1 := hv
      show _ = pl_nb p v
      rw [f3]; split
      · rename_i e; rw [e, hnb]
      · exact k3 v (by omega)
    · show _ = if j = its then pl_fs p j ||| vb_bit (pl_n p) else pl_fs p j
      rw [f4 j hj, k4 j hj]
    · rw [hf (L + 8) (by omega), hf (L + 9) (by omega)]; exact k6
    · rw [hf (L + 8) (by omega), hf (L + 9) (by omega)]; exact k7
  show mm_W _ _ 15 (mm_blk 15 0) [.ref L, .int (vb_i its), .int (vb_i w), .int (vb_i f)] [] _ _

  refine mm_w1 rfl ?_
  refine mm_wgiv _ (vL_S0 hL) (by decide) (by decide) hn0 ?_
  refine mm_wv (vb_i 10) rfl (by decide) ?_
  refine mm_nicge (by omega) (by omega) ?_ ?_
  · intro h6
    omega
  · intro h6
    refine mm_w1 rfl ?_
    refine mm_wgr (vL_S0 hL) (by decide) (by decide) (vL_P0_4 hL) (vL_a1 hL) ?_
    refine mm_w1 rfl ?_
    refine mm_wgiv _ (vL_S0 hL) (by decide) (by decide) hn0 ?_
    refine mm_w1 rfl ?_
    refine mm_wisN (vL_S1 hL) (by decide) (by omega) ?_
    intro I1 hI1
    have hn1 : I1 L 0 = vb_i (pl_n p) := by rw [hI1, vb_up3 _ _ (by omega)]; exact hn0
    refine mm_w1 rfl ?_
    refine mm_wgr (vL_S0 hL) (by decide) (by decide) (vL_P0_5 hL) (vL_a2 hL) ?_
    refine mm_w1 rfl ?_
    refine mm_wgiv _ (vL_S0 hL) (by decide) (by decide) hn1 ?_
    refine mm_w1 rfl ?_
    refine mm_wisN (vL_S2 hL) (by decide) (by omega) ?_
    intro I2 hI2
    have hn2 : I2 L 0 = vb_i (pl_n p) := by rw [hI2, vb_up3 _ _ (by omega)]; exact hn1
    refine mm_w1 rfl ?_
    refine mm_wgr (vL_S0 hL) (by decide) (by decide) (vL_P0_6 hL) (vL_a3 hL) ?_
    refine mm_w1 rfl ?_
    refine mm_wgiv _ (vL_S0 hL) (by decide) (by decide) hn2 ?_
    refine mm_wv (vb_i 0) rfl (by decide) ?_
    refine mm_wisN (vL_S3 hL) (by decide) (by omega) ?_
    intro I3 hI3
    have hn3 : I3 L 0 = vb_i (pl_n p) := by rw [hI3, vb_up3 _ _ (by omega)]; exact hn2
    refine mm_w1 rfl ?_
    refine mm_wv (vb_i 2) rfl (by decide) ?_
    refine mm_niceq (by omega) (by omega) ?_ ?_
    · intro h41
      refine mm_w1 rfl ?_
      refine mm_w1 rfl ?_
      refine mm_wgiv _ (vL_S0 hL) (by decide) (by decide) hn3 ?_
      refine mm_wv (vb_i 1) rfl (by decide) ?_
      refine mm_nadd ?_
      refine mm_wpi (vL_S0 hL) (by decide) (by decide) ?_
      refine mm_wr rfl rfl rfl ?_
      refine ⟨_, fin _ ?_ ?_ ?_ ?_ ?_ ?_, rfl⟩
      · intro a ha
        (repeat rw [vb_up3 _ _ (by omega)])
        first
          | rw [hI4, vb_up3 _ _ (by omega), hI3, vb_up3 _ _ (by omega), hI2, vb_up3 _ _ (by omega), hI1, vb_up3 _ _ (by omega)]
          | rw [hI3, vb_up3 _ _ (by omega), hI2, vb_up3 _ _ (by omega), hI1, vb_up3 _ _ (by omega)]
      · intro q
        by_cases e : q = 0
        · subst e; rw [vb_up1, if_pos rfl]
        · rw [vb_up2 _ _ (by omega), if_neg e]
          first
            | rw [hI4, vb_up3 _ _ (by omega), hI3, vb_up3 _ _ (by omega), hI2, vb_up3 _ _ (by omega), hI1, vb_up3 _ _ (by omega)]
            | rw [hI3, vb_up3 _ _ (by omega), hI2, vb_up3 _ _ (by omega), hI1, vb_up3 _ _ (by omega)]
      · intro j
        rw [vb_up3 _ _ (by omega)]
        first
          | rw [hI4, vb_up3 _ _ (by omega), hI3, vb_up3 _ _ (by omega), hI2, vb_up3 _ _ (by omega), hI1]
          | rw [hI3, vb_up3 _ _ (by omega), hI2, vb_up3 _ _ (by omega), hI1]
        simp only [mm_up, if_true]
      · intro j
        rw [vb_up3 _ _ (by omega)]
        first
          | rw [hI4, vb_up3 _ _ (by omega), hI3, vb_up3 _ _ (by omega), hI2]
          | rw [hI3, vb_up3 _ _ (by omega), hI2]
        simp only [mm_up, if_true]
        rw [hI1, vb_up3 _ _ (by omega)]
      · intro j
        rw [vb_up3 _ _ (by omega)]
        first
          | rw [hI4, vb_up3 _ _ (by omega), hI3]
          | rw [hI3]
        simp only [mm_up, if_true]
        rw [hI2, vb_up3 _ _ (by omega), hI1, vb_up3 _ _ (by omega)]; rfl
      · intro j hj
        rw [vb_up3 _ _ (by omega)]
        first
          | (rw [hI4]
             simp only [mm_up, if_true]
             rw [hI3, vb_up3 _ _ (by omega), hI2, vb_up3 _ _ (by omega), hI1, vb_up3 _ _ (by omega)]
             split
             · rename_i e; rw [e]
             · rfl)
          | (rw [if_neg (by omega), hI3, vb_up3 _ _ (by omega), hI2, vb_up3 _ _ (by omega), hI1, vb_up3 _ _ (by omega)])
    · intro h41
      refine mm_w1 rfl ?_
      refine mm_wgr (vL_S0 hL) (by decide) (by decide) (vL_P0_7 hL) (vL_a4 hL) ?_
      refine mm_w1 rfl ?_
      refine mm_w1 rfl ?_
      refine mm_wiav (I (L + 4) its) (vL_a4 hL) (vL_S4 hL) (by decide) (by omega) (by rw [hI3, vb_up3 _ _ (by omega), hI2, vb_up3 _ _ (by omega), hI1, vb_up3 _ _ (by omega)]) ?_
      refine mm_wv (vb_i 1) rfl (by decide) ?_
      refine mm_w1 rfl ?_
      refine mm_wgiv _ (vL_S0 hL) (by decide) (by decide) hn3 ?_
      refine mm_nbit (by omega) ?_
      refine mm_w1 rfl ?_
      refine mm_wisN (vL_S4 hL) (by decide) (by omega) ?_
      intro I4 hI4
      have hn4 : I4 L 0 = vb_i (pl_n p) := by rw [hI4, vb_up3 _ _ (by omega)]; exact hn3
      refine mm_w1 rfl ?_
      refine mm_w1 rfl ?_
      refine mm_wgiv _ (vL_S0 hL) (by decide) (by decide) hn4 ?_
      refine mm_wv (vb_i 1) rfl (by decide) ?_
      refine mm_nadd ?_
      refine mm_wpi (vL_S0 hL) (by decide) (by decide) ?_
      refine mm_wr rfl rfl rfl ?_
      refine ⟨_, fin _ ?_ ?_ ?_ ?_ ?_ ?_, rfl⟩
      · intro a ha
        (repeat rw [vb_up3 _ _ (by omega)])
        first
          | rw [hI4, vb_up3 _ _ (by omega), hI3, vb_up3 _ _ (by omega), hI2, vb_up3 _ _ (by omega), hI1, vb_up3 _ _ (by omega)]
          | rw [hI3, vb_up3 _ _ (by omega), hI2, vb_up3 _ _ (by omega), hI1, vb_up3 _ _ (by omega)]
      · intro q
        by_cases e : q = 0
        · subst e; rw [vb_up1, if_pos rfl]
        · rw [vb_up2 _ _ (by omega), if_neg e]
          first
            | rw [hI4, vb_up3 _ _ (by omega), hI3, vb_up3 _ _ (by omega), hI2, vb_up3 _ _ (by omega), hI1, vb_up3 _ _ (by omega)]
            | rw [hI3, vb_up3 _ _ (by omega), hI2, vb_up3 _ _ (by omega), hI1, vb_up3 _ _ (by omega)]
      · intro j
        rw [vb_up3 _ _ (by omega)]
        first
          | rw [hI4, vb_up3 _ _ (by omega), hI3, vb_up3 _ _ (by omega), hI2, vb_up3 _ _ (by omega), hI1]
          | rw [hI3, vb_up3 _ _ (by omega), hI2, vb_up3 _ _ (by omega), hI1]
        simp only [mm_up, if_true]
      · intro j
        rw [vb_up3 _ _ (by omega)]
        first
          | rw [hI4, vb_up3 _ _ (by omega), hI3, vb_up3 _ _ (by omega), hI2]
          | rw [hI3, vb_up3 _ _ (by omega), hI2]
        simp only [mm_up, if_true]
        rw [hI1, vb_up3 _ _ (by omega)]
      · intro j
        rw [vb_up3 _ _ (by omega)]
        first
          | rw [hI4, vb_up3 _ _ (by omega), hI3]
          | rw [hI3]
        simp only [mm_up, if_true]
        rw [hI2, vb_up3 _ _ (by omega), hI1, vb_up3 _ _ (by omega)]; rfl
      · intro j hj
        rw [vb_up3 _ _ (by omega)]
        first
          | (rw [hI4]
             simp only [mm_up, if_true]
             rw [hI3, vb_up3 _ _ (by omega), hI2, vb_up3 _ _ (by omega), hI1, vb_up3 _ _ (by omega)]
             split
             · rename_i e; rw [e]
             · rfl)
          | (rw [if_neg (by omega), hI3, vb_up3 _ _ (by omega), hI2, vb_up3 _ _ (by omega), hI1, vb_up3 _ _ (by omega)])
end RD6
