/-! THE LAW'S OWN METHODS: a call, what it threw -/
def lw_RX (f : Int32 → Int64) (e : Nat → Nat) (o : Int32 ⊕ Nat) (σ' σ : vb_St) (S : List (Nat × Nat)) (nc ns : Nat) : mm_R → Prop := fun r => ∃ c I' P' J' nc' ns', r = (.inl (some (.int c)), (I', P', J', S, nc', ns')) ∧ nc' ≤ nc + 1 ∧ ns' ≤ ns + 6 ∧ lw_V σ' P' S I' ∧ lw_N σ P' S I' ∧ lw_C P' S ∧ (match o with
  | .inl z => c = vb_i 0 ∧ J' 86 0 = f z
  | .inr E => c = vb_i (e E))
def lw_fi (z : Int32) : Int64 := z.toInt64
def lw_fb (z : Int32) : Int64 := if z = 0 then Int64.ofNat 0 else Int64.ofNat 1
section LWX
variable {G : mm_G} {d : Nat} {I : Nat → Nat → Int32} {P : Nat → Nat → Nat} {J : Nat → Nat → Int64} {S : List (Nat × Nat)} {nc ns : Nat} {σ τ : vb_St}
variable {k : Nat} {is : List mm_I} {ls st : List Value} {Q : mm_R → Prop} {μ μ1 : mm_M}
theorem mm_wccat {idx kk nA w : Nat} {c : Int32} {args rest : List Value} {E h i : Nat} {is2 : List mm_I} (h5 : mm_call (.invokevirtual idx, kk, nA, w, c) st μ = some (kk, args, rest)) (h9 : kk < 9000) (hd : 0 < d) (hc : mm_Call G (d - 1) kk args μ (.inr E, μ1)) (hh : mm_hd (mm_hs k) c.toNatClampNeg E = some h) (ha : mm_ast (mm_blk k h) = some (i, is2)) (hk : i < ls.length ∧ μ1.2.2.2.1.length = μ.2.2.2.1.length) (kk2 : mm_W G d k is2 (mm_s1 i .null ls) [] μ1 Q) : mm_W G d k ((.invokevirtual idx, kk, nA, w, c) :: is) ls st μ Q := by
  obtain ⟨d, rfl⟩ : ∃ j, d = j + 1 := ⟨d - 1, by omega⟩
  obtain ⟨r, h1, h2⟩ := kk2
  exact ⟨r, mm_ccat (by simp only [mm_one]; rw [if_neg (by omega), if_neg (by omega)]) h5 hc hh ha hk h1, h2⟩
theorem mm_cvX {idx kk nA w : Nat} {c : Int32} {args rest : List Value} {v : Option Value} (h5 : mm_call (.invokevirtual idx, kk, nA, w, c) st μ = some (kk, args, rest)) (h9 : kk < 9000) (hd : 0 < d) (hc : mm_Call G (d - 1) kk args μ (.inl v, μ1)) (hk : μ1.2.2.2.1.length = μ.2.2.2.1.length) (k2 : mm_W G d k is ls (v.toList ++ rest) μ1 Q) : mm_W G d k ((.invokevirtual idx, kk, nA, w, c) :: is) ls st μ Q :=
  mm_wcv (Q1 := fun r => r = (.inl v, μ1)) h5 h9 hd ⟨_, hc, rfl⟩ (fun r e => ⟨v, μ1, e, hk, k2⟩)
theorem mm_csX {idx kk nA w : Nat} {c : Int32} {args rest : List Value} {v : Option Value} (h5 : mm_call (.invokestatic idx, kk, nA, w, c) st μ = some (kk, args, rest)) (h9 : kk < 9000) (hd : 0 < d) (hc : mm_Call G (d - 1) kk args μ (.inl v, μ1)) (hk : μ1.2.2.2.1.length = μ.2.2.2.1.length) (k2 : mm_W G d k is ls (v.toList ++ rest) μ1 Q) : mm_W G d k ((.invokestatic idx, kk, nA, w, c) :: is) ls st μ Q :=
  mm_wcs (Q1 := fun r => r = (.inl v, μ1)) h5 h9 hd ⟨_, hc, rfl⟩ (fun r e => ⟨v, μ1, e, hk, k2⟩)
theorem le_board {x1 : Int32} {E : Nat} (hp : (vs_p σ).length ≤ 700) (ht : vs_tb σ) (h : sp_board σ x1 = .inr E) : E = 1 := by
  rw [sp_board] at h
  split at h
  · cases h; rfl
  · rename_i m hm
    obtain ⟨lm, _⟩ := vb_idx_some (by omega) hm
    obtain ⟨r, hr⟩ := q_rd_tot (q_b_ok (t := vs_p σ) (n := m) (by omega) hp ht)
    rw [hr] at h
    cases h
theorem lx_board (hV : lw_V σ P S I) (hN : lw_N σ P S I) (hC : lw_C P S) (hI : lw_I σ) (hd : 80 ≤ d) (x1 : Int32) : mm_C G d 249 [.ref 0, .int x1, .ref 86] (I, P, J, S, nc, ns) (lw_RX lw_fi (fun _ => 1) (sp_board σ x1) (st_board σ x1) σ S nc ns) := by
  have h86 := hC.2.2.2
  obtain ⟨r, hgo, I', P', J', nc', ns', hr, hnc, hns, hV', hN', hC'⟩ := vc_board (G := G) (d := d - 1) (J := J) (nc := nc) (ns := ns) hV hN hC hI (by omega) x1
  obtain ⟨L, hW, dV⟩ := hV
  subst hr
  cases ho : sp_board σ x1 with
  | inl z =>
    rw [ho] at hgo
    show mm_W _ _ 249 (mm_blk 249 0) [.ref 0, .int x1, .ref 86, .null] [] _ _
    refine mm_w1 rfl ?_
    refine mm_wv (vb_i 0) rfl (by decide) ?_
    refine mm_w1 rfl ?_
    refine mm_w1 rfl ?_
    refine mm_cvX (vb_cv (vV_S0 hW.1) rfl rfl rfl rfl) (by decide) (by omega) hgo rfl ?_
    refine mm_w1 rfl ?_
    refine mm_wls h86 (by decide) (by decide) ?_
    refine mm_wgoto ?_
    refine mm_wv (vb_i 0) rfl (by decide) ?_
    refine mm_wr rfl rfl rfl ?_
    exact ⟨_, _, _, _, _, _, rfl, hnc, hns, hV', hN', hC', rfl, by rw [vb_up1]; rfl⟩
  | inr E =>
    rw [ho] at hgo
    obtain rfl := le_board (vd_p7 dV) hI.2.2 ho
    show mm_W _ _ 249 (mm_blk 249 0) [.ref 0, .int x1, .ref 86, .null] [] _ _
    refine mm_w1 rfl ?_
    refine mm_wv (vb_i 0) rfl (by decide) ?_
    refine mm_w1 rfl ?_
    refine mm_w1 rfl ?_
    refine mm_wccat (vb_cv (vV_S0 hW.1) rfl rfl rfl rfl) (by decide) (by omega) hgo rfl rfl ⟨of_decide_eq_true rfl, rfl⟩ ?_
    refine mm_wv (vb_i 1) rfl (by decide) ?_
    refine mm_wr rfl rfl rfl ?_
    exact ⟨_, _, _, _, _, _, rfl, hnc, hns, hV', hN', hC', rfl⟩
theorem le_count {x1 : Int32} {E : Nat} (h : sp_count σ x1 = .inr E) : E = 0 := by
  simp only [sp_count] at h
  (repeat' split at h) <;> cases h <;> rfl
theorem lx_count (hV : lw_V σ P S I) (hN : lw_N σ P S I) (hC : lw_C P S) (hI : lw_I σ) (hd : 80 ≤ d) (x1 : Int32) : mm_C G d 250 [.ref 0, .int x1, .ref 86] (I, P, J, S, nc, ns) (lw_RX lw_fi (fun E => E + 1) (sp_count σ x1) σ σ S nc ns) := by
  have h86 := hC.2.2.2
  obtain ⟨r, hgo, I', P', J', nc', ns', hr, hnc, hns, hV', hN', hC'⟩ := vc_count (G := G) (d := d - 1) (J := J) (nc := nc) (ns := ns) hV hN hC hI (by omega) x1
  obtain ⟨L, hW, dV⟩ := hV
  subst hr
  cases ho : sp_count σ x1 with
  | inl z =>
    rw [ho] at hgo
    show mm_W _ _ 250 (mm_blk 250 0) [.ref 0, .int x1, .ref 86, .null] [] _ _
    refine mm_w1 rfl ?_
    refine mm_wv (vb_i 0) rfl (by decide) ?_
    refine mm_w1 rfl ?_
    refine mm_w1 rfl ?_
    refine mm_cvX (vb_cv (vV_S0 hW.1) rfl rfl rfl rfl) (by decide) (by omega) hgo rfl ?_
    refine mm_w1 rfl ?_
    refine mm_wls h86 (by decide) (by decide) ?_
    refine mm_wgoto ?_
    refine mm_wv (vb_i 0) rfl (by decide) ?_
    refine mm_wr rfl rfl rfl ?_
    exact ⟨_, _, _, _, _, _, rfl, hnc, hns, hV', hN', hC', rfl, by rw [vb_up1]; rfl⟩
  | inr E =>
    rw [ho] at hgo
    obtain rfl := le_count ho
    show mm_W _ _ 250 (mm_blk 250 0) [.ref 0, .int x1, .ref 86, .null] [] _ _
    refine mm_w1 rfl ?_
    refine mm_wv (vb_i 0) rfl (by decide) ?_
    refine mm_w1 rfl ?_
    refine mm_w1 rfl ?_
    refine mm_wccat (vb_cv (vV_S0 hW.1) rfl rfl rfl rfl) (by decide) (by omega) hgo rfl rfl ⟨of_decide_eq_true rfl, rfl⟩ ?_
    refine mm_wv (vb_i 1) rfl (by decide) ?_
    refine mm_wr rfl rfl rfl ?_
    exact ⟨_, _, _, _, _, _, rfl, hnc, hns, hV', hN', hC', rfl⟩
theorem le_village {x1 x2 : Int32} {E : Nat} (h : sp_village σ x1 x2 = .inr E) : E = 0 := by
  simp only [sp_village] at h
  (repeat' split at h) <;> cases h <;> rfl
theorem lx_village (hV : lw_V σ P S I) (hN : lw_N σ P S I) (hC : lw_C P S) (hI : lw_I σ) (hd : 80 ≤ d) (x1 x2 : Int32) : mm_C G d 251 [.ref 0, .int x1, .int x2, .ref 86] (I, P, J, S, nc, ns) (lw_RX lw_fi (fun E => E + 1) (sp_village σ x1 x2) σ σ S nc ns) := by
  have h86 := hC.2.2.2
  obtain ⟨r, hgo, I', P', J', nc', ns', hr, hnc, hns, hV', hN', hC'⟩ := vc_village (G := G) (d := d - 1) (J := J) (nc := nc) (ns := ns) hV hN hC hI (by omega) x1 x2
  obtain ⟨L, hW, dV⟩ := hV
  subst hr
  cases ho : sp_village σ x1 x2 with
  | inl z =>
    rw [ho] at hgo
    show mm_W _ _ 251 (mm_blk 251 0) [.ref 0, .int x1, .int x2, .ref 86, .null] [] _ _
    refine mm_w1 rfl ?_
    refine mm_wv (vb_i 0) rfl (by decide) ?_
    refine mm_w1 rfl ?_
    refine mm_w1 rfl ?_
    refine mm_w1 rfl ?_
    refine mm_cvX (vb_cv (vV_S0 hW.1) rfl rfl rfl rfl) (by decide) (by omega) hgo rfl ?_
    refine mm_w1 rfl ?_
    refine mm_wls h86 (by decide) (by decide) ?_
    refine mm_wgoto ?_
    refine mm_wv (vb_i 0) rfl (by decide) ?_
    refine mm_wr rfl rfl rfl ?_
    exact ⟨_, _, _, _, _, _, rfl, hnc, hns, hV', hN', hC', rfl, by rw [vb_up1]; rfl⟩
  | inr E =>
    rw [ho] at hgo
    obtain rfl := le_village ho
    show mm_W _ _ 251 (mm_blk 251 0) [.ref 0, .int x1, .int x2, .ref 86, .null] [] _ _
    refine mm_w1 rfl ?_
    refine mm_wv (vb_i 0) rfl (by decide) ?_
    refine mm_w1 rfl ?_
    refine mm_w1 rfl ?_
    refine mm_w1 rfl ?_
    refine mm_wccat (vb_cv (vV_S0 hW.1) rfl rfl rfl rfl) (by decide) (by omega) hgo rfl rfl ⟨of_decide_eq_true rfl, rfl⟩ ?_
    refine mm_wv (vb_i 1) rfl (by decide) ?_
    refine mm_wr rfl rfl rfl ?_
    exact ⟨_, _, _, _, _, _, rfl, hnc, hns, hV', hN', hC', rfl⟩
theorem le_side {x1 x2 : Int32} {E : Nat} (h : sp_side σ x1 x2 = .inr E) : E = 0 := by
  simp only [sp_side] at h
  (repeat' split at h) <;> cases h <;> rfl
theorem lx_side (hV : lw_V σ P S I) (hN : lw_N σ P S I) (hC : lw_C P S) (hI : lw_I σ) (hd : 80 ≤ d) (x1 x2 : Int32) : mm_C G d 252 [.ref 0, .int x1, .int x2, .ref 86] (I, P, J, S, nc, ns) (lw_RX lw_fi (fun E => E + 1) (sp_side σ x1 x2) σ σ S nc ns) := by
  have h86 := hC.2.2.2
  obtain ⟨r, hgo, I', P', J', nc', ns', hr, hnc, hns, hV', hN', hC'⟩ := vc_side (G := G) (d := d - 1) (J := J) (nc := nc) (ns := ns) hV hN hC hI (by omega) x1 x2
  obtain ⟨L, hW, dV⟩ := hV
  subst hr
  cases ho : sp_side σ x1 x2 with
  | inl z =>
    rw [ho] at hgo
    show mm_W _ _ 252 (mm_blk 252 0) [.ref 0, .int x1, .int x2, .ref 86, .null] [] _ _
    refine mm_w1 rfl ?_
    refine mm_wv (vb_i 0) rfl (by decide) ?_
    refine mm_w1 rfl ?_
    refine mm_w1 rfl ?_
    refine mm_w1 rfl ?_
    refine mm_cvX (vb_cv (vV_S0 hW.1) rfl rfl rfl rfl) (by decide) (by omega) hgo rfl ?_
    refine mm_w1 rfl ?_
    refine mm_wls h86 (by decide) (by decide) ?_
    refine mm_wgoto ?_
    refine mm_wv (vb_i 0) rfl (by decide) ?_
    refine mm_wr rfl rfl rfl ?_
    exact ⟨_, _, _, _, _, _, rfl, hnc, hns, hV', hN', hC', rfl, by rw [vb_up1]; rfl⟩
  | inr E =>
    rw [ho] at hgo
    obtain rfl := le_side ho
    show mm_W _ _ 252 (mm_blk 252 0) [.ref 0, .int x1, .int x2, .ref 86, .null] [] _ _
    refine mm_w1 rfl ?_
    refine mm_wv (vb_i 0) rfl (by decide) ?_
    refine mm_w1 rfl ?_
    refine mm_w1 rfl ?_
    refine mm_w1 rfl ?_
    refine mm_wccat (vb_cv (vV_S0 hW.1) rfl rfl rfl rfl) (by decide) (by omega) hgo rfl rfl ⟨of_decide_eq_true rfl, rfl⟩ ?_
    refine mm_wv (vb_i 1) rfl (by decide) ?_
    refine mm_wr rfl rfl rfl ?_
    exact ⟨_, _, _, _, _, _, rfl, hnc, hns, hV', hN', hC', rfl⟩
theorem le_road {x1 x2 : Int32} {E : Nat} (h : sp_road σ x1 x2 = .inr E) : E = 0 := by
  simp only [sp_road] at h
  (repeat' split at h) <;> cases h <;> rfl
theorem lx_road (hV : lw_V σ P S I) (hN : lw_N σ P S I) (hC : lw_C P S) (hI : lw_I σ) (hd : 80 ≤ d) (x1 x2 : Int32) : mm_C G d 253 [.ref 0, .int x1, .int x2, .ref 86] (I, P, J, S, nc, ns) (lw_RX lw_fb (fun E => E + 1) (sp_road σ x1 x2) σ σ S nc ns) := by
  have h86 := hC.2.2.2
  obtain ⟨r, hgo, I', P', J', nc', ns', hr, hnc, hns, hV', hN', hC'⟩ := vc_road (G := G) (d := d - 1) (J := J) (nc := nc) (ns := ns) hV hN hC hI (by omega) x1 x2
  obtain ⟨L, hW, dV⟩ := hV
  subst hr
  cases ho : sp_road σ x1 x2 with
  | inl z =>
    rw [ho] at hgo
    show mm_W _ _ 253 (mm_blk 253 0) [.ref 0, .int x1, .int x2, .ref 86, .null] [] _ _
    refine mm_w1 rfl ?_
    refine mm_wv (vb_i 0) rfl (by decide) ?_
    refine mm_w1 rfl ?_
    refine mm_w1 rfl ?_
    refine mm_w1 rfl ?_
    refine mm_cvX (vb_cv (vV_S0 hW.1) rfl rfl rfl rfl) (by decide) (by omega) hgo rfl ?_
    refine mm_wifeq ?_ ?_
    · intro hz
      refine mm_w1 rfl ?_
      refine mm_wls h86 (by decide) (by decide) ?_
      refine mm_wgoto ?_
      refine mm_wv (vb_i 0) rfl (by decide) ?_
      refine mm_wr rfl rfl rfl ?_
      exact ⟨_, _, _, _, _, _, rfl, hnc, hns, hV', hN', hC', rfl, by rw [vb_up1]; exact (if_pos hz).symm⟩
    · intro hz
      refine mm_w1 rfl ?_
      refine mm_wgoto ?_
      refine mm_wls h86 (by decide) (by decide) ?_
      refine mm_wgoto ?_
      refine mm_wv (vb_i 0) rfl (by decide) ?_
      refine mm_wr rfl rfl rfl ?_
      exact ⟨_, _, _, _, _, _, rfl, hnc, hns, hV', hN', hC', rfl, by rw [vb_up1]; exact (if_neg hz).symm⟩
  | inr E =>
    rw [ho] at hgo
    obtain rfl := le_road ho
    show mm_W _ _ 253 (mm_blk 253 0) [.ref 0, .int x1, .int x2, .ref 86, .null] [] _ _
    refine mm_w1 rfl ?_
    refine mm_wv (vb_i 0) rfl (by decide) ?_
    refine mm_w1 rfl ?_
    refine mm_w1 rfl ?_
    refine mm_w1 rfl ?_
    refine mm_wccat (vb_cv (vV_S0 hW.1) rfl rfl rfl rfl) (by decide) (by omega) hgo rfl rfl ⟨of_decide_eq_true rfl, rfl⟩ ?_
    refine mm_wv (vb_i 1) rfl (by decide) ?_
    refine mm_wr rfl rfl rfl ?_
    exact ⟨_, _, _, _, _, _, rfl, hnc, hns, hV', hN', hC', rfl⟩
theorem le_lawful {x1 x2 : Int32} {E : Nat} (h : sp_lawful σ x1 x2 = .inr E) : E = 0 := by
  simp only [sp_lawful] at h
  (repeat' split at h) <;> cases h <;> rfl
theorem lx_lawful (hV : lw_V σ P S I) (hN : lw_N σ P S I) (hC : lw_C P S) (hI : lw_I σ) (hd : 80 ≤ d) (x1 x2 : Int32) : mm_C G d 254 [.ref 0, .int x1, .int x2, .ref 86] (I, P, J, S, nc, ns) (lw_RX lw_fb (fun E => E + 1) (sp_lawful σ x1 x2) σ σ S nc ns) := by
  have h86 := hC.2.2.2
  obtain ⟨r, hgo, I', P', J', nc', ns', hr, hnc, hns, hV', hN', hC'⟩ := vc_lawful (G := G) (d := d - 1) (J := J) (nc := nc) (ns := ns) hV hN hC hI (by omega) x1 x2
  obtain ⟨L, hW, dV⟩ := hV
  subst hr
  cases ho : sp_lawful σ x1 x2 with
  | inl z =>
    rw [ho] at hgo
    show mm_W _ _ 254 (mm_blk 254 0) [.ref 0, .int x1, .int x2, .ref 86, .null] [] _ _
    refine mm_w1 rfl ?_
    refine mm_wv (vb_i 0) rfl (by decide) ?_
    refine mm_w1 rfl ?_
    refine mm_w1 rfl ?_
    refine mm_w1 rfl ?_
    refine mm_cvX (vb_cv (vV_S0 hW.1) rfl rfl rfl rfl) (by decide) (by omega) hgo rfl ?_
    refine mm_wifeq ?_ ?_
    · intro hz
      refine mm_w1 rfl ?_
      refine mm_wls h86 (by decide) (by decide) ?_
      refine mm_wgoto ?_
      refine mm_wv (vb_i 0) rfl (by decide) ?_
      refine mm_wr rfl rfl rfl ?_
      exact ⟨_, _, _, _, _, _, rfl, hnc, hns, hV', hN', hC', rfl, by rw [vb_up1]; exact (if_pos hz).symm⟩
    · intro hz
      refine mm_w1 rfl ?_
      refine mm_wgoto ?_
      refine mm_wls h86 (by decide) (by decide) ?_
      refine mm_wgoto ?_
      refine mm_wv (vb_i 0) rfl (by decide) ?_
      refine mm_wr rfl rfl rfl ?_
      exact ⟨_, _, _, _, _, _, rfl, hnc, hns, hV', hN', hC', rfl, by rw [vb_up1]; exact (if_neg hz).symm⟩
  | inr E =>
    rw [ho] at hgo
    obtain rfl := le_lawful ho
    show mm_W _ _ 254 (mm_blk 254 0) [.ref 0, .int x1, .int x2, .ref 86, .null] [] _ _
    refine mm_w1 rfl ?_
    refine mm_wv (vb_i 0) rfl (by decide) ?_
    refine mm_w1 rfl ?_
    refine mm_w1 rfl ?_
    refine mm_w1 rfl ?_
    refine mm_wccat (vb_cv (vV_S0 hW.1) rfl rfl rfl rfl) (by decide) (by omega) hgo rfl rfl ⟨of_decide_eq_true rfl, rfl⟩ ?_
    refine mm_wv (vb_i 1) rfl (by decide) ?_
    refine mm_wr rfl rfl rfl ?_
    exact ⟨_, _, _, _, _, _, rfl, hnc, hns, hV', hN', hC', rfl⟩
theorem le_move {x1 x2 : Int32} {E : Nat} (h : sp_move σ x1 x2 = .inr E) : E = 0 := by
  simp only [sp_move] at h
  (repeat' split at h) <;> cases h <;> rfl
theorem lx_move (hV : lw_V σ P S I) (hN : lw_N σ P S I) (hC : lw_C P S) (hI : lw_I σ) (hd : 80 ≤ d) (x1 x2 : Int32) : mm_C G d 255 [.ref 0, .int x1, .int x2, .ref 86] (I, P, J, S, nc, ns) (lw_RX lw_fi (fun E => E + 1) (sp_move σ x1 x2) (st_move σ x1 x2) σ S nc ns) := by
  have h86 := hC.2.2.2
  obtain ⟨r, hgo, I', P', J', nc', ns', hr, hnc, hns, hV', hN', hC'⟩ := vc_move (G := G) (d := d - 1) (J := J) (nc := nc) (ns := ns) hV hN hC hI (by omega) x1 x2
  obtain ⟨L, hW, dV⟩ := hV
  subst hr
  cases ho : sp_move σ x1 x2 with
  | inl z =>
    rw [ho] at hgo
    show mm_W _ _ 255 (mm_blk 255 0) [.ref 0, .int x1, .int x2, .ref 86, .null] [] _ _
    refine mm_w1 rfl ?_
    refine mm_wv (vb_i 0) rfl (by decide) ?_
    refine mm_w1 rfl ?_
    refine mm_w1 rfl ?_
    refine mm_w1 rfl ?_
    refine mm_cvX (vb_cv (vV_S0 hW.1) rfl rfl rfl rfl) (by decide) (by omega) hgo rfl ?_
    refine mm_w1 rfl ?_
    refine mm_wls h86 (by decide) (by decide) ?_
    refine mm_wgoto ?_
    refine mm_wv (vb_i 0) rfl (by decide) ?_
    refine mm_wr rfl rfl rfl ?_
    exact ⟨_, _, _, _, _, _, rfl, hnc, hns, hV', hN', hC', rfl, by rw [vb_up1]; rfl⟩
  | inr E =>
    rw [ho] at hgo
    obtain rfl := le_move ho
    show mm_W _ _ 255 (mm_blk 255 0) [.ref 0, .int x1, .int x2, .ref 86, .null] [] _ _
    refine mm_w1 rfl ?_
    refine mm_wv (vb_i 0) rfl (by decide) ?_
    refine mm_w1 rfl ?_
    refine mm_w1 rfl ?_
    refine mm_w1 rfl ?_
    refine mm_wccat (vb_cv (vV_S0 hW.1) rfl rfl rfl rfl) (by decide) (by omega) hgo rfl rfl ⟨of_decide_eq_true rfl, rfl⟩ ?_
    refine mm_wv (vb_i 1) rfl (by decide) ?_
    refine mm_wr rfl rfl rfl ?_
    exact ⟨_, _, _, _, _, _, rfl, hnc, hns, hV', hN', hC', rfl⟩
theorem le_fly {x1 x2 : Int32} {E : Nat} (h : sp_fly σ x1 x2 = .inr E) : E = 0 := by
  simp only [sp_fly] at h
  (repeat' split at h) <;> cases h <;> rfl
theorem lx_fly (hV : lw_V σ P S I) (hN : lw_N σ P S I) (hC : lw_C P S) (hI : lw_I σ) (hd : 80 ≤ d) (x1 x2 : Int32) : mm_C G d 256 [.ref 0, .int x1, .int x2, .ref 86] (I, P, J, S, nc, ns) (lw_RX lw_fb (fun E => E + 1) (sp_fly σ x1 x2) (st_fly σ x1 x2) σ S nc ns) := by
  have h86 := hC.2.2.2
  obtain ⟨r, hgo, I', P', J', nc', ns', hr, hnc, hns, hV', hN', hC'⟩ := vc_fly (G := G) (d := d - 1) (J := J) (nc := nc) (ns := ns) hV hN hC hI (by omega) x1 x2
  obtain ⟨L, hW, dV⟩ := hV
  subst hr
  cases ho : sp_fly σ x1 x2 with
  | inl z =>
    rw [ho] at hgo
    show mm_W _ _ 256 (mm_blk 256 0) [.ref 0, .int x1, .int x2, .ref 86, .null] [] _ _
    refine mm_w1 rfl ?_
    refine mm_wv (vb_i 0) rfl (by decide) ?_
    refine mm_w1 rfl ?_
    refine mm_w1 rfl ?_
    refine mm_w1 rfl ?_
    refine mm_cvX (vb_cv (vV_S0 hW.1) rfl rfl rfl rfl) (by decide) (by omega) hgo rfl ?_
    refine mm_wifeq ?_ ?_
    · intro hz
      refine mm_w1 rfl ?_
      refine mm_wls h86 (by decide) (by decide) ?_
      refine mm_wgoto ?_
      refine mm_wv (vb_i 0) rfl (by decide) ?_
      refine mm_wr rfl rfl rfl ?_
      exact ⟨_, _, _, _, _, _, rfl, hnc, hns, hV', hN', hC', rfl, by rw [vb_up1]; exact (if_pos hz).symm⟩
    · intro hz
      refine mm_w1 rfl ?_
      refine mm_wgoto ?_
      refine mm_wls h86 (by decide) (by decide) ?_
      refine mm_wgoto ?_
      refine mm_wv (vb_i 0) rfl (by decide) ?_
      refine mm_wr rfl rfl rfl ?_
      exact ⟨_, _, _, _, _, _, rfl, hnc, hns, hV', hN', hC', rfl, by rw [vb_up1]; exact (if_neg hz).symm⟩
  | inr E =>
    rw [ho] at hgo
    obtain rfl := le_fly ho
    show mm_W _ _ 256 (mm_blk 256 0) [.ref 0, .int x1, .int x2, .ref 86, .null] [] _ _
    refine mm_w1 rfl ?_
    refine mm_wv (vb_i 0) rfl (by decide) ?_
    refine mm_w1 rfl ?_
    refine mm_w1 rfl ?_
    refine mm_w1 rfl ?_
    refine mm_wccat (vb_cv (vV_S0 hW.1) rfl rfl rfl rfl) (by decide) (by omega) hgo rfl rfl ⟨of_decide_eq_true rfl, rfl⟩ ?_
    refine mm_wv (vb_i 1) rfl (by decide) ?_
    refine mm_wr rfl rfl rfl ?_
    exact ⟨_, _, _, _, _, _, rfl, hnc, hns, hV', hN', hC', rfl⟩
theorem le_teach {x1 x2 : Int32} {E : Nat} (h : sp_teach σ x1 x2 = .inr E) : E = 0 := by
  simp only [sp_teach] at h
  (repeat' split at h) <;> cases h <;> rfl
theorem lx_teach (hV : lw_V σ P S I) (hN : lw_N σ P S I) (hC : lw_C P S) (hI : lw_I σ) (hd : 80 ≤ d) (x1 x2 : Int32) : mm_C G d 257 [.ref 0, .int x1, .int x2, .ref 86] (I, P, J, S, nc, ns) (lw_RX lw_fi (fun E => E + 1) (sp_teach σ x1 x2) (st_teach σ x1 x2) σ S nc ns) := by
  have h86 := hC.2.2.2
  obtain ⟨r, hgo, I', P', J', nc', ns', hr, hnc, hns, hV', hN', hC'⟩ := vc_teach (G := G) (d := d - 1) (J := J) (nc := nc) (ns := ns) hV hN hC hI (by omega) x1 x2
  obtain ⟨L, hW, dV⟩ := hV
  subst hr
  cases ho : sp_teach σ x1 x2 with
  | inl z =>
    rw [ho] at hgo
    show mm_W _ _ 257 (mm_blk 257 0) [.ref 0, .int x1, .int x2, .ref 86, .null] [] _ _
    refine mm_w1 rfl ?_
    refine mm_wv (vb_i 0) rfl (by decide) ?_
    refine mm_w1 rfl ?_
    refine mm_w1 rfl ?_
    refine mm_w1 rfl ?_
    refine mm_cvX (vb_cv (vV_S0 hW.1) rfl rfl rfl rfl) (by decide) (by omega) hgo rfl ?_
    refine mm_w1 rfl ?_
    refine mm_wls h86 (by decide) (by decide) ?_
    refine mm_wgoto ?_
    refine mm_wv (vb_i 0) rfl (by decide) ?_
    refine mm_wr rfl rfl rfl ?_
    exact ⟨_, _, _, _, _, _, rfl, hnc, hns, hV', hN', hC', rfl, by rw [vb_up1]; rfl⟩
  | inr E =>
    rw [ho] at hgo
    obtain rfl := le_teach ho
    show mm_W _ _ 257 (mm_blk 257 0) [.ref 0, .int x1, .int x2, .ref 86, .null] [] _ _
    refine mm_w1 rfl ?_
    refine mm_wv (vb_i 0) rfl (by decide) ?_
    refine mm_w1 rfl ?_
    refine mm_w1 rfl ?_
    refine mm_w1 rfl ?_
    refine mm_wccat (vb_cv (vV_S0 hW.1) rfl rfl rfl rfl) (by decide) (by omega) hgo rfl rfl ⟨of_decide_eq_true rfl, rfl⟩ ?_
    refine mm_wv (vb_i 1) rfl (by decide) ?_
    refine mm_wr rfl rfl rfl ?_
    exact ⟨_, _, _, _, _, _, rfl, hnc, hns, hV', hN', hC', rfl⟩
theorem le_hangs {x1 : Int32} {E : Nat} (h : sp_hangs σ x1 = .inr E) : E = 0 := by
  simp only [sp_hangs] at h
  (repeat' split at h) <;> cases h <;> rfl
theorem lx_hangs (hV : lw_V σ P S I) (hN : lw_N σ P S I) (hC : lw_C P S) (hI : lw_I σ) (hd : 80 ≤ d) (x1 : Int32) : mm_C G d 258 [.ref 0, .int x1, .ref 86] (I, P, J, S, nc, ns) (lw_RX lw_fi (fun E => E + 1) (sp_hangs σ x1) σ σ S nc ns) := by
  have h86 := hC.2.2.2
  obtain ⟨r, hgo, I', P', J', nc', ns', hr, hnc, hns, hV', hN', hC'⟩ := vc_hangs (G := G) (d := d - 1) (J := J) (nc := nc) (ns := ns) hV hN hC hI (by omega) x1
  obtain ⟨L, hW, dV⟩ := hV
  subst hr
  cases ho : sp_hangs σ x1 with
  | inl z =>
    rw [ho] at hgo
    show mm_W _ _ 258 (mm_blk 258 0) [.ref 0, .int x1, .ref 86, .null] [] _ _
    refine mm_w1 rfl ?_
    refine mm_wv (vb_i 0) rfl (by decide) ?_
    refine mm_w1 rfl ?_
    refine mm_w1 rfl ?_
    refine mm_cvX (vb_cv (vV_S0 hW.1) rfl rfl rfl rfl) (by decide) (by omega) hgo rfl ?_
    refine mm_w1 rfl ?_
    refine mm_wls h86 (by decide) (by decide) ?_
    refine mm_wgoto ?_
    refine mm_wv (vb_i 0) rfl (by decide) ?_
    refine mm_wr rfl rfl rfl ?_
    exact ⟨_, _, _, _, _, _, rfl, hnc, hns, hV', hN', hC', rfl, by rw [vb_up1]; rfl⟩
  | inr E =>
    rw [ho] at hgo
    obtain rfl := le_hangs ho
    show mm_W _ _ 258 (mm_blk 258 0) [.ref 0, .int x1, .ref 86, .null] [] _ _
    refine mm_w1 rfl ?_
    refine mm_wv (vb_i 0) rfl (by decide) ?_
    refine mm_w1 rfl ?_
    refine mm_w1 rfl ?_
    refine mm_wccat (vb_cv (vV_S0 hW.1) rfl rfl rfl rfl) (by decide) (by omega) hgo rfl rfl ⟨of_decide_eq_true rfl, rfl⟩ ?_
    refine mm_wv (vb_i 1) rfl (by decide) ?_
    refine mm_wr rfl rfl rfl ?_
    exact ⟨_, _, _, _, _, _, rfl, hnc, hns, hV', hN', hC', rfl⟩
theorem le_look {x1 x2 : Int32} {E : Nat} (h : sp_look σ x1 x2 = .inr E) : E = 0 ∨ E = 1 := by
  simp only [sp_look] at h
  (repeat' split at h) <;> cases h <;> first | exact Or.inl rfl | exact Or.inr rfl
theorem lx_look (hV : lw_V σ P S I) (hN : lw_N σ P S I) (hC : lw_C P S) (hI : lw_I σ) (hd : 80 ≤ d) (x1 x2 : Int32) : mm_C G d 259 [.ref 0, .int x1, .int x2, .ref 86] (I, P, J, S, nc, ns) (lw_RX lw_fi (fun E => E + 1) (sp_look σ x1 x2) σ σ S nc ns) := by
  have h86 := hC.2.2.2
  obtain ⟨r, hgo, I', P', J', nc', ns', hr, hnc, hns, hV', hN', hC'⟩ := vc_look (G := G) (d := d - 1) (J := J) (nc := nc) (ns := ns) hV hN hC hI (by omega) x1 x2
  obtain ⟨L, hW, dV⟩ := hV
  subst hr
  cases ho : sp_look σ x1 x2 with
  | inl z =>
    rw [ho] at hgo
    show mm_W _ _ 259 (mm_blk 259 0) [.ref 0, .int x1, .int x2, .ref 86, .null] [] _ _
    refine mm_w1 rfl ?_
    refine mm_wv (vb_i 0) rfl (by decide) ?_
    refine mm_w1 rfl ?_
    refine mm_w1 rfl ?_
    refine mm_w1 rfl ?_
    refine mm_cvX (vb_cv (vV_S0 hW.1) rfl rfl rfl rfl) (by decide) (by omega) hgo rfl ?_
    refine mm_w1 rfl ?_
    refine mm_wls h86 (by decide) (by decide) ?_
    refine mm_wgoto ?_
    refine mm_wv (vb_i 0) rfl (by decide) ?_
    refine mm_wr rfl rfl rfl ?_
    exact ⟨_, _, _, _, _, _, rfl, hnc, hns, hV', hN', hC', rfl, by rw [vb_up1]; rfl⟩
  | inr E =>
    rw [ho] at hgo
    rcases le_look ho with rfl | rfl
    · show mm_W _ _ 259 (mm_blk 259 0) [.ref 0, .int x1, .int x2, .ref 86, .null] [] _ _
      refine mm_w1 rfl ?_
      refine mm_wv (vb_i 0) rfl (by decide) ?_
      refine mm_w1 rfl ?_
      refine mm_w1 rfl ?_
      refine mm_w1 rfl ?_
      refine mm_wccat (vb_cv (vV_S0 hW.1) rfl rfl rfl rfl) (by decide) (by omega) hgo rfl rfl ⟨of_decide_eq_true rfl, rfl⟩ ?_
      refine mm_wv (vb_i 1) rfl (by decide) ?_
      refine mm_wr rfl rfl rfl ?_
      exact ⟨_, _, _, _, _, _, rfl, hnc, hns, hV', hN', hC', rfl⟩
    · show mm_W _ _ 259 (mm_blk 259 0) [.ref 0, .int x1, .int x2, .ref 86, .null] [] _ _
      refine mm_w1 rfl ?_
      refine mm_wv (vb_i 0) rfl (by decide) ?_
      refine mm_w1 rfl ?_
      refine mm_w1 rfl ?_
      refine mm_w1 rfl ?_
      refine mm_wccat (vb_cv (vV_S0 hW.1) rfl rfl rfl rfl) (by decide) (by omega) hgo rfl rfl ⟨of_decide_eq_true rfl, rfl⟩ ?_
      refine mm_wv (vb_i 2) rfl (by decide) ?_
      refine mm_wr rfl rfl rfl ?_
      exact ⟨_, _, _, _, _, _, rfl, hnc, hns, hV', hN', hC', rfl⟩
theorem le_journey {x1 x2 : Int32} {E : Nat} (h : sp_journey σ x1 x2 = .inr E) : E = 0 := by
  simp only [sp_journey] at h
  (repeat' split at h) <;> cases h <;> rfl
theorem lx_journey (hV : lw_V σ P S I) (hN : lw_N σ P S I) (hC : lw_C P S) (hI : lw_I σ) (hd : 80 ≤ d) (x1 x2 : Int32) : mm_C G d 260 [.ref 0, .int x1, .int x2, .ref 86] (I, P, J, S, nc, ns) (lw_RX lw_fi (fun E => E + 1) (sp_journey σ x1 x2) σ σ S nc ns) := by
  have h86 := hC.2.2.2
  obtain ⟨r, hgo, I', P', J', nc', ns', hr, hnc, hns, hV', hN', hC'⟩ := vc_journey (G := G) (d := d - 1) (J := J) (nc := nc) (ns := ns) hV hN hC hI (by omega) x1 x2
  obtain ⟨L, hW, dV⟩ := hV
  subst hr
  cases ho : sp_journey σ x1 x2 with
  | inl z =>
    rw [ho] at hgo
    show mm_W _ _ 260 (mm_blk 260 0) [.ref 0, .int x1, .int x2, .ref 86, .null] [] _ _
    refine mm_w1 rfl ?_
    refine mm_wv (vb_i 0) rfl (by decide) ?_
    refine mm_w1 rfl ?_
    refine mm_w1 rfl ?_
    refine mm_w1 rfl ?_
    refine mm_cvX (vb_cv (vV_S0 hW.1) rfl rfl rfl rfl) (by decide) (by omega) hgo rfl ?_
    refine mm_w1 rfl ?_
    refine mm_wls h86 (by decide) (by decide) ?_
    refine mm_wgoto ?_
    refine mm_wv (vb_i 0) rfl (by decide) ?_
    refine mm_wr rfl rfl rfl ?_
    exact ⟨_, _, _, _, _, _, rfl, hnc, hns, hV', hN', hC', rfl, by rw [vb_up1]; rfl⟩
  | inr E =>
    rw [ho] at hgo
    obtain rfl := le_journey ho
    show mm_W _ _ 260 (mm_blk 260 0) [.ref 0, .int x1, .int x2, .ref 86, .null] [] _ _
    refine mm_w1 rfl ?_
    refine mm_wv (vb_i 0) rfl (by decide) ?_
    refine mm_w1 rfl ?_
    refine mm_w1 rfl ?_
    refine mm_w1 rfl ?_
    refine mm_wccat (vb_cv (vV_S0 hW.1) rfl rfl rfl rfl) (by decide) (by omega) hgo rfl rfl ⟨of_decide_eq_true rfl, rfl⟩ ?_
    refine mm_wv (vb_i 1) rfl (by decide) ?_
    refine mm_wr rfl rfl rfl ?_
    exact ⟨_, _, _, _, _, _, rfl, hnc, hns, hV', hN', hC', rfl⟩
theorem le_played {x1 : Int32} {E : Nat} (h : sp_played σ x1 = .inr E) : E = 0 := by
  simp only [sp_played] at h
  (repeat' split at h) <;> cases h <;> rfl
theorem lx_played (hV : lw_V σ P S I) (hN : lw_N σ P S I) (hC : lw_C P S) (hI : lw_I σ) (hd : 80 ≤ d) (x1 : Int32) : mm_C G d 261 [.ref 0, .int x1, .ref 86] (I, P, J, S, nc, ns) (lw_RX lw_fi (fun E => E + 1) (sp_played σ x1) σ σ S nc ns) := by
  have h86 := hC.2.2.2
  obtain ⟨r, hgo, I', P', J', nc', ns', hr, hnc, hns, hV', hN', hC'⟩ := vc_played (G := G) (d := d - 1) (J := J) (nc := nc) (ns := ns) hV hN hC hI (by omega) x1
  obtain ⟨L, hW, dV⟩ := hV
  subst hr
  cases ho : sp_played σ x1 with
  | inl z =>
    rw [ho] at hgo
    show mm_W _ _ 261 (mm_blk 261 0) [.ref 0, .int x1, .ref 86, .null] [] _ _
    refine mm_w1 rfl ?_
    refine mm_wv (vb_i 0) rfl (by decide) ?_
    refine mm_w1 rfl ?_
    refine mm_w1 rfl ?_
    refine mm_cvX (vb_cv (vV_S0 hW.1) rfl rfl rfl rfl) (by decide) (by omega) hgo rfl ?_
    refine mm_w1 rfl ?_
    refine mm_wls h86 (by decide) (by decide) ?_
    refine mm_wgoto ?_
    refine mm_wv (vb_i 0) rfl (by decide) ?_
    refine mm_wr rfl rfl rfl ?_
    exact ⟨_, _, _, _, _, _, rfl, hnc, hns, hV', hN', hC', rfl, by rw [vb_up1]; rfl⟩
  | inr E =>
    rw [ho] at hgo
    obtain rfl := le_played ho
    show mm_W _ _ 261 (mm_blk 261 0) [.ref 0, .int x1, .ref 86, .null] [] _ _
    refine mm_w1 rfl ?_
    refine mm_wv (vb_i 0) rfl (by decide) ?_
    refine mm_w1 rfl ?_
    refine mm_w1 rfl ?_
    refine mm_wccat (vb_cv (vV_S0 hW.1) rfl rfl rfl rfl) (by decide) (by omega) hgo rfl rfl ⟨of_decide_eq_true rfl, rfl⟩ ?_
    refine mm_wv (vb_i 1) rfl (by decide) ?_
    refine mm_wr rfl rfl rfl ?_
    exact ⟨_, _, _, _, _, _, rfl, hnc, hns, hV', hN', hC', rfl⟩
theorem le_turned {x1 : Int32} {E : Nat} (h : sp_turned σ x1 = .inr E) : E = 0 := by
  simp only [sp_turned] at h
  (repeat' split at h) <;> cases h <;> rfl
theorem lx_turned (hV : lw_V σ P S I) (hN : lw_N σ P S I) (hC : lw_C P S) (hI : lw_I σ) (hd : 80 ≤ d) (x1 : Int32) : mm_C G d 262 [.ref 0, .int x1, .ref 86] (I, P, J, S, nc, ns) (lw_RX lw_fi (fun E => E + 1) (sp_turned σ x1) σ σ S nc ns) := by
  have h86 := hC.2.2.2
  obtain ⟨r, hgo, I', P', J', nc', ns', hr, hnc, hns, hV', hN', hC'⟩ := vc_turned (G := G) (d := d - 1) (J := J) (nc := nc) (ns := ns) hV hN hC hI (by omega) x1
  obtain ⟨L, hW, dV⟩ := hV
  subst hr
  cases ho : sp_turned σ x1 with
  | inl z =>
    rw [ho] at hgo
    show mm_W _ _ 262 (mm_blk 262 0) [.ref 0, .int x1, .ref 86, .null] [] _ _
    refine mm_w1 rfl ?_
    refine mm_wv (vb_i 0) rfl (by decide) ?_
    refine mm_w1 rfl ?_
    refine mm_w1 rfl ?_
    refine mm_cvX (vb_cv (vV_S0 hW.1) rfl rfl rfl rfl) (by decide) (by omega) hgo rfl ?_
    refine mm_w1 rfl ?_
    refine mm_wls h86 (by decide) (by decide) ?_
    refine mm_wgoto ?_
    refine mm_wv (vb_i 0) rfl (by decide) ?_
    refine mm_wr rfl rfl rfl ?_
    exact ⟨_, _, _, _, _, _, rfl, hnc, hns, hV', hN', hC', rfl, by rw [vb_up1]; rfl⟩
  | inr E =>
    rw [ho] at hgo
    obtain rfl := le_turned ho
    show mm_W _ _ 262 (mm_blk 262 0) [.ref 0, .int x1, .ref 86, .null] [] _ _
    refine mm_w1 rfl ?_
    refine mm_wv (vb_i 0) rfl (by decide) ?_
    refine mm_w1 rfl ?_
    refine mm_w1 rfl ?_
    refine mm_wccat (vb_cv (vV_S0 hW.1) rfl rfl rfl rfl) (by decide) (by omega) hgo rfl rfl ⟨of_decide_eq_true rfl, rfl⟩ ?_
    refine mm_wv (vb_i 1) rfl (by decide) ?_
    refine mm_wr rfl rfl rfl ?_
    exact ⟨_, _, _, _, _, _, rfl, hnc, hns, hV', hN', hC', rfl⟩
theorem le_treasury {x1 x2 : Int32} {E : Nat} (h : sp_treasury σ x1 x2 = .inr E) : E = 0 ∨ E = 1 := by
  simp only [sp_treasury] at h
  (repeat' split at h) <;> cases h <;> first | exact Or.inl rfl | exact Or.inr rfl
theorem lx_treasury (hV : lw_V σ P S I) (hN : lw_N σ P S I) (hC : lw_C P S) (hI : lw_I σ) (hd : 80 ≤ d) (x1 x2 : Int32) : mm_C G d 263 [.ref 0, .int x1, .int x2, .ref 86] (I, P, J, S, nc, ns) (lw_RX lw_fi (fun E => E + 1) (sp_treasury σ x1 x2) σ σ S nc ns) := by
  have h86 := hC.2.2.2
  obtain ⟨r, hgo, I', P', J', nc', ns', hr, hnc, hns, hV', hN', hC'⟩ := vc_treasury (G := G) (d := d - 1) (J := J) (nc := nc) (ns := ns) hV hN hC hI (by omega) x1 x2
  obtain ⟨L, hW, dV⟩ := hV
  subst hr
  cases ho : sp_treasury σ x1 x2 with
  | inl z =>
    rw [ho] at hgo
    show mm_W _ _ 263 (mm_blk 263 0) [.ref 0, .int x1, .int x2, .ref 86, .null] [] _ _
    refine mm_w1 rfl ?_
    refine mm_wv (vb_i 0) rfl (by decide) ?_
    refine mm_w1 rfl ?_
    refine mm_w1 rfl ?_
    refine mm_w1 rfl ?_
    refine mm_cvX (vb_cv (vV_S0 hW.1) rfl rfl rfl rfl) (by decide) (by omega) hgo rfl ?_
    refine mm_w1 rfl ?_
    refine mm_wls h86 (by decide) (by decide) ?_
    refine mm_wgoto ?_
    refine mm_wv (vb_i 0) rfl (by decide) ?_
    refine mm_wr rfl rfl rfl ?_
    exact ⟨_, _, _, _, _, _, rfl, hnc, hns, hV', hN', hC', rfl, by rw [vb_up1]; rfl⟩
  | inr E =>
    rw [ho] at hgo
    rcases le_treasury ho with rfl | rfl
    · show mm_W _ _ 263 (mm_blk 263 0) [.ref 0, .int x1, .int x2, .ref 86, .null] [] _ _
      refine mm_w1 rfl ?_
      refine mm_wv (vb_i 0) rfl (by decide) ?_
      refine mm_w1 rfl ?_
      refine mm_w1 rfl ?_
      refine mm_w1 rfl ?_
      refine mm_wccat (vb_cv (vV_S0 hW.1) rfl rfl rfl rfl) (by decide) (by omega) hgo rfl rfl ⟨of_decide_eq_true rfl, rfl⟩ ?_
      refine mm_wv (vb_i 1) rfl (by decide) ?_
      refine mm_wr rfl rfl rfl ?_
      exact ⟨_, _, _, _, _, _, rfl, hnc, hns, hV', hN', hC', rfl⟩
    · show mm_W _ _ 263 (mm_blk 263 0) [.ref 0, .int x1, .int x2, .ref 86, .null] [] _ _
      refine mm_w1 rfl ?_
      refine mm_wv (vb_i 0) rfl (by decide) ?_
      refine mm_w1 rfl ?_
      refine mm_w1 rfl ?_
      refine mm_w1 rfl ?_
      refine mm_wccat (vb_cv (vV_S0 hW.1) rfl rfl rfl rfl) (by decide) (by omega) hgo rfl rfl ⟨of_decide_eq_true rfl, rfl⟩ ?_
      refine mm_wv (vb_i 2) rfl (by decide) ?_
      refine mm_wr rfl rfl rfl ?_
      exact ⟨_, _, _, _, _, _, rfl, hnc, hns, hV', hN', hC', rfl⟩
theorem le_gift {x1 x2 : Int32} {E : Nat} (h : sp_gift σ x1 x2 = .inr E) : E = 0 := by
  simp only [sp_gift] at h
  (repeat' split at h) <;> cases h <;> rfl
theorem lx_gift (hV : lw_V σ P S I) (hN : lw_N σ P S I) (hC : lw_C P S) (hI : lw_I σ) (hd : 80 ≤ d) (x1 x2 : Int32) : mm_C G d 264 [.ref 0, .int x1, .int x2, .ref 86] (I, P, J, S, nc, ns) (lw_RX lw_fi (fun E => E + 1) (sp_gift σ x1 x2) σ σ S nc ns) := by
  have h86 := hC.2.2.2
  obtain ⟨r, hgo, I', P', J', nc', ns', hr, hnc, hns, hV', hN', hC'⟩ := vc_gift (G := G) (d := d - 1) (J := J) (nc := nc) (ns := ns) hV hN hC hI (by omega) x1 x2
  obtain ⟨L, hW, dV⟩ := hV
  subst hr
  cases ho : sp_gift σ x1 x2 with
  | inl z =>
    rw [ho] at hgo
    show mm_W _ _ 264 (mm_blk 264 0) [.ref 0, .int x1, .int x2, .ref 86, .null] [] _ _
    refine mm_w1 rfl ?_
    refine mm_wv (vb_i 0) rfl (by decide) ?_
    refine mm_w1 rfl ?_
    refine mm_w1 rfl ?_
    refine mm_w1 rfl ?_
    refine mm_cvX (vb_cv (vV_S0 hW.1) rfl rfl rfl rfl) (by decide) (by omega) hgo rfl ?_
    refine mm_w1 rfl ?_
    refine mm_wls h86 (by decide) (by decide) ?_
    refine mm_wgoto ?_
    refine mm_wv (vb_i 0) rfl (by decide) ?_
    refine mm_wr rfl rfl rfl ?_
    exact ⟨_, _, _, _, _, _, rfl, hnc, hns, hV', hN', hC', rfl, by rw [vb_up1]; rfl⟩
  | inr E =>
    rw [ho] at hgo
    obtain rfl := le_gift ho
    show mm_W _ _ 264 (mm_blk 264 0) [.ref 0, .int x1, .int x2, .ref 86, .null] [] _ _
    refine mm_w1 rfl ?_
    refine mm_wv (vb_i 0) rfl (by decide) ?_
    refine mm_w1 rfl ?_
    refine mm_w1 rfl ?_
    refine mm_w1 rfl ?_
    refine mm_wccat (vb_cv (vV_S0 hW.1) rfl rfl rfl rfl) (by decide) (by omega) hgo rfl rfl ⟨of_decide_eq_true rfl, rfl⟩ ?_
    refine mm_wv (vb_i 1) rfl (by decide) ?_
    refine mm_wr rfl rfl rfl ?_
    exact ⟨_, _, _, _, _, _, rfl, hnc, hns, hV', hN', hC', rfl⟩
theorem le_plant {x1 x2 : Int32} {E : Nat} (h : sp_plant σ x1 x2 = .inr E) : E = 0 := by
  simp only [sp_plant] at h
  (repeat' split at h) <;> cases h <;> rfl
theorem lx_plant (hV : lw_V σ P S I) (hN : lw_N σ P S I) (hC : lw_C P S) (hI : lw_I σ) (hd : 80 ≤ d) (x1 x2 : Int32) : mm_C G d 265 [.ref 0, .int x1, .int x2, .ref 86] (I, P, J, S, nc, ns) (lw_RX lw_fi (fun E => E + 1) (sp_plant σ x1 x2) σ σ S nc ns) := by
  have h86 := hC.2.2.2
  obtain ⟨r, hgo, I', P', J', nc', ns', hr, hnc, hns, hV', hN', hC'⟩ := vc_plant (G := G) (d := d - 1) (J := J) (nc := nc) (ns := ns) hV hN hC hI (by omega) x1 x2
  obtain ⟨L, hW, dV⟩ := hV
  subst hr
  cases ho : sp_plant σ x1 x2 with
  | inl z =>
    rw [ho] at hgo
    show mm_W _ _ 265 (mm_blk 265 0) [.ref 0, .int x1, .int x2, .ref 86, .null] [] _ _
    refine mm_w1 rfl ?_
    refine mm_wv (vb_i 0) rfl (by decide) ?_
    refine mm_w1 rfl ?_
    refine mm_w1 rfl ?_
    refine mm_w1 rfl ?_
    refine mm_cvX (vb_cv (vV_S0 hW.1) rfl rfl rfl rfl) (by decide) (by omega) hgo rfl ?_
    refine mm_w1 rfl ?_
    refine mm_wls h86 (by decide) (by decide) ?_
    refine mm_wgoto ?_
    refine mm_wv (vb_i 0) rfl (by decide) ?_
    refine mm_wr rfl rfl rfl ?_
    exact ⟨_, _, _, _, _, _, rfl, hnc, hns, hV', hN', hC', rfl, by rw [vb_up1]; rfl⟩
  | inr E =>
    rw [ho] at hgo
    obtain rfl := le_plant ho
    show mm_W _ _ 265 (mm_blk 265 0) [.ref 0, .int x1, .int x2, .ref 86, .null] [] _ _
    refine mm_w1 rfl ?_
    refine mm_wv (vb_i 0) rfl (by decide) ?_
    refine mm_w1 rfl ?_
    refine mm_w1 rfl ?_
    refine mm_w1 rfl ?_
    refine mm_wccat (vb_cv (vV_S0 hW.1) rfl rfl rfl rfl) (by decide) (by omega) hgo rfl rfl ⟨of_decide_eq_true rfl, rfl⟩ ?_
    refine mm_wv (vb_i 1) rfl (by decide) ?_
    refine mm_wr rfl rfl rfl ?_
    exact ⟨_, _, _, _, _, _, rfl, hnc, hns, hV', hN', hC', rfl⟩
theorem le_see {x1 x2 x3 : Int32} {E : Nat} (h : sp_see σ x1 x2 x3 = .inr E) : E = 0 := by
  simp only [sp_see] at h
  (repeat' split at h) <;> cases h <;> rfl
theorem lx_see (hV : lw_V σ P S I) (hN : lw_N σ P S I) (hC : lw_C P S) (hI : lw_I σ) (hd : 80 ≤ d) (x1 x2 x3 : Int32) : mm_C G d 266 [.ref 0, .int x1, .int x2, .int x3, .ref 86] (I, P, J, S, nc, ns) (lw_RX lw_fi (fun E => E + 1) (sp_see σ x1 x2 x3) (st_see σ x1 x2 x3) σ S nc ns) := by
  have h86 := hC.2.2.2
  obtain ⟨r, hgo, I', P', J', nc', ns', hr, hnc, hns, hV', hN', hC'⟩ := vc_see (G := G) (d := d - 1) (J := J) (nc := nc) (ns := ns) hV hN hC hI (by omega) x1 x2 x3
  obtain ⟨L, hW, dV⟩ := hV
  subst hr
  cases ho : sp_see σ x1 x2 x3 with
  | inl z =>
    rw [ho] at hgo
    show mm_W _ _ 266 (mm_blk 266 0) [.ref 0, .int x1, .int x2, .int x3, .ref 86, .null] [] _ _
    refine mm_w1 rfl ?_
    refine mm_wv (vb_i 0) rfl (by decide) ?_
    refine mm_w1 rfl ?_
    refine mm_w1 rfl ?_
    refine mm_w1 rfl ?_
    refine mm_w1 rfl ?_
    refine mm_cvX (vb_cv (vV_S0 hW.1) rfl rfl rfl rfl) (by decide) (by omega) hgo rfl ?_
    refine mm_w1 rfl ?_
    refine mm_wls h86 (by decide) (by decide) ?_
    refine mm_wgoto ?_
    refine mm_wv (vb_i 0) rfl (by decide) ?_
    refine mm_wr rfl rfl rfl ?_
    exact ⟨_, _, _, _, _, _, rfl, hnc, hns, hV', hN', hC', rfl, by rw [vb_up1]; rfl⟩
  | inr E =>
    rw [ho] at hgo
    obtain rfl := le_see ho
    show mm_W _ _ 266 (mm_blk 266 0) [.ref 0, .int x1, .int x2, .int x3, .ref 86, .null] [] _ _
    refine mm_w1 rfl ?_
    refine mm_wv (vb_i 0) rfl (by decide) ?_
    refine mm_w1 rfl ?_
    refine mm_w1 rfl ?_
    refine mm_w1 rfl ?_
    refine mm_w1 rfl ?_
    refine mm_wccat (vb_cv (vV_S0 hW.1) rfl rfl rfl rfl) (by decide) (by omega) hgo rfl rfl ⟨of_decide_eq_true rfl, rfl⟩ ?_
    refine mm_wv (vb_i 1) rfl (by decide) ?_
    refine mm_wr rfl rfl rfl ?_
    exact ⟨_, _, _, _, _, _, rfl, hnc, hns, hV', hN', hC', rfl⟩
theorem le_styles {x1 : Int32} {E : Nat} (h : sp_styles σ x1 = .inr E) : E = 0 := by
  simp only [sp_styles] at h
  (repeat' split at h) <;> cases h <;> rfl
theorem lx_styles (hV : lw_V σ P S I) (hN : lw_N σ P S I) (hC : lw_C P S) (hI : lw_I σ) (hd : 80 ≤ d) (x1 : Int32) : mm_C G d 267 [.ref 0, .int x1, .ref 86] (I, P, J, S, nc, ns) (lw_RX lw_fi (fun E => E + 1) (sp_styles σ x1) σ σ S nc ns) := by
  have h86 := hC.2.2.2
  obtain ⟨r, hgo, I', P', J', nc', ns', hr, hnc, hns, hV', hN', hC'⟩ := vc_styles (G := G) (d := d - 1) (J := J) (nc := nc) (ns := ns) hV hN hC hI (by omega) x1
  obtain ⟨L, hW, dV⟩ := hV
  subst hr
  cases ho : sp_styles σ x1 with
  | inl z =>
    rw [ho] at hgo
    show mm_W _ _ 267 (mm_blk 267 0) [.ref 0, .int x1, .ref 86, .null] [] _ _
    refine mm_w1 rfl ?_
    refine mm_wv (vb_i 0) rfl (by decide) ?_
    refine mm_w1 rfl ?_
    refine mm_w1 rfl ?_
    refine mm_cvX (vb_cv (vV_S0 hW.1) rfl rfl rfl rfl) (by decide) (by omega) hgo rfl ?_
    refine mm_w1 rfl ?_
    refine mm_wls h86 (by decide) (by decide) ?_
    refine mm_wgoto ?_
    refine mm_wv (vb_i 0) rfl (by decide) ?_
    refine mm_wr rfl rfl rfl ?_
    exact ⟨_, _, _, _, _, _, rfl, hnc, hns, hV', hN', hC', rfl, by rw [vb_up1]; rfl⟩
  | inr E =>
    rw [ho] at hgo
    obtain rfl := le_styles ho
    show mm_W _ _ 267 (mm_blk 267 0) [.ref 0, .int x1, .ref 86, .null] [] _ _
    refine mm_w1 rfl ?_
    refine mm_wv (vb_i 0) rfl (by decide) ?_
    refine mm_w1 rfl ?_
    refine mm_w1 rfl ?_
    refine mm_wccat (vb_cv (vV_S0 hW.1) rfl rfl rfl rfl) (by decide) (by omega) hgo rfl rfl ⟨of_decide_eq_true rfl, rfl⟩ ?_
    refine mm_wv (vb_i 1) rfl (by decide) ?_
    refine mm_wr rfl rfl rfl ?_
    exact ⟨_, _, _, _, _, _, rfl, hnc, hns, hV', hN', hC', rfl⟩
theorem le_next {x1 : Int32} {E : Nat} (h : sp_next σ x1 = .inr E) : E = 0 := by
  simp only [sp_next] at h
  (repeat' split at h) <;> cases h <;> rfl
theorem lx_next (hV : lw_V σ P S I) (hN : lw_N σ P S I) (hC : lw_C P S) (hI : lw_I σ) (hd : 80 ≤ d) (x1 : Int32) : mm_C G d 268 [.ref 0, .int x1, .ref 86] (I, P, J, S, nc, ns) (lw_RX lw_fi (fun E => E + 1) (sp_next σ x1) σ σ S nc ns) := by
  have h86 := hC.2.2.2
  obtain ⟨r, hgo, I', P', J', nc', ns', hr, hnc, hns, hV', hN', hC'⟩ := vc_next (G := G) (d := d - 1) (J := J) (nc := nc) (ns := ns) hV hN hC hI (by omega) x1
  obtain ⟨L, hW, dV⟩ := hV
  subst hr
  cases ho : sp_next σ x1 with
  | inl z =>
    rw [ho] at hgo
    show mm_W _ _ 268 (mm_blk 268 0) [.ref 0, .int x1, .ref 86, .null] [] _ _
    refine mm_w1 rfl ?_
    refine mm_wv (vb_i 0) rfl (by decide) ?_
    refine mm_w1 rfl ?_
    refine mm_w1 rfl ?_
    refine mm_cvX (vb_cv (vV_S0 hW.1) rfl rfl rfl rfl) (by decide) (by omega) hgo rfl ?_
    refine mm_w1 rfl ?_
    refine mm_wls h86 (by decide) (by decide) ?_
    refine mm_wgoto ?_
    refine mm_wv (vb_i 0) rfl (by decide) ?_
    refine mm_wr rfl rfl rfl ?_
    exact ⟨_, _, _, _, _, _, rfl, hnc, hns, hV', hN', hC', rfl, by rw [vb_up1]; rfl⟩
  | inr E =>
    rw [ho] at hgo
    obtain rfl := le_next ho
    show mm_W _ _ 268 (mm_blk 268 0) [.ref 0, .int x1, .ref 86, .null] [] _ _
    refine mm_w1 rfl ?_
    refine mm_wv (vb_i 0) rfl (by decide) ?_
    refine mm_w1 rfl ?_
    refine mm_w1 rfl ?_
    refine mm_wccat (vb_cv (vV_S0 hW.1) rfl rfl rfl rfl) (by decide) (by omega) hgo rfl rfl ⟨of_decide_eq_true rfl, rfl⟩ ?_
    refine mm_wv (vb_i 1) rfl (by decide) ?_
    refine mm_wr rfl rfl rfl ?_
    exact ⟨_, _, _, _, _, _, rfl, hnc, hns, hV', hN', hC', rfl⟩
theorem le_game {x1 x2 x3 : Int32} {E : Nat} (h : sp_game σ x1 x2 x3 = .inr E) : E = 0 ∨ E = 1 := by
  simp only [sp_game] at h
  (repeat' split at h) <;> cases h <;> first | exact Or.inl rfl | exact Or.inr rfl
theorem lx_game (hV : lw_V σ P S I) (hN : lw_N σ P S I) (hC : lw_C P S) (hI : lw_I σ) (hd : 80 ≤ d) (x1 x2 x3 : Int32) : mm_C G d 269 [.ref 0, .int x1, .int x2, .int x3, .ref 86] (I, P, J, S, nc, ns) (lw_RX lw_fi (fun E => E + 1) (sp_game σ x1 x2 x3) σ σ S nc ns) := by
  have h86 := hC.2.2.2
  obtain ⟨r, hgo, I', P', J', nc', ns', hr, hnc, hns, hV', hN', hC'⟩ := vc_game (G := G) (d := d - 1) (J := J) (nc := nc) (ns := ns) hV hN hC hI (by omega) x1 x2 x3
  obtain ⟨L, hW, dV⟩ := hV
  subst hr
  cases ho : sp_game σ x1 x2 x3 with
  | inl z =>
    rw [ho] at hgo
    show mm_W _ _ 269 (mm_blk 269 0) [.ref 0, .int x1, .int x2, .int x3, .ref 86, .null] [] _ _
    refine mm_w1 rfl ?_
    refine mm_wv (vb_i 0) rfl (by decide) ?_
    refine mm_w1 rfl ?_
    refine mm_w1 rfl ?_
    refine mm_w1 rfl ?_
    refine mm_w1 rfl ?_
    refine mm_cvX (vb_cv (vV_S0 hW.1) rfl rfl rfl rfl) (by decide) (by omega) hgo rfl ?_
    refine mm_w1 rfl ?_
    refine mm_wls h86 (by decide) (by decide) ?_
    refine mm_wgoto ?_
    refine mm_wv (vb_i 0) rfl (by decide) ?_
    refine mm_wr rfl rfl rfl ?_
    exact ⟨_, _, _, _, _, _, rfl, hnc, hns, hV', hN', hC', rfl, by rw [vb_up1]; rfl⟩
  | inr E =>
    rw [ho] at hgo
    rcases le_game ho with rfl | rfl
    · show mm_W _ _ 269 (mm_blk 269 0) [.ref 0, .int x1, .int x2, .int x3, .ref 86, .null] [] _ _
      refine mm_w1 rfl ?_
      refine mm_wv (vb_i 0) rfl (by decide) ?_
      refine mm_w1 rfl ?_
      refine mm_w1 rfl ?_
      refine mm_w1 rfl ?_
      refine mm_w1 rfl ?_
      refine mm_wccat (vb_cv (vV_S0 hW.1) rfl rfl rfl rfl) (by decide) (by omega) hgo rfl rfl ⟨of_decide_eq_true rfl, rfl⟩ ?_
      refine mm_wv (vb_i 1) rfl (by decide) ?_
      refine mm_wr rfl rfl rfl ?_
      exact ⟨_, _, _, _, _, _, rfl, hnc, hns, hV', hN', hC', rfl⟩
    · show mm_W _ _ 269 (mm_blk 269 0) [.ref 0, .int x1, .int x2, .int x3, .ref 86, .null] [] _ _
      refine mm_w1 rfl ?_
      refine mm_wv (vb_i 0) rfl (by decide) ?_
      refine mm_w1 rfl ?_
      refine mm_w1 rfl ?_
      refine mm_w1 rfl ?_
      refine mm_w1 rfl ?_
      refine mm_wccat (vb_cv (vV_S0 hW.1) rfl rfl rfl rfl) (by decide) (by omega) hgo rfl rfl ⟨of_decide_eq_true rfl, rfl⟩ ?_
      refine mm_wv (vb_i 2) rfl (by decide) ?_
      refine mm_wr rfl rfl rfl ?_
      exact ⟨_, _, _, _, _, _, rfl, hnc, hns, hV', hN', hC', rfl⟩
theorem le_years {x1 x2 x3 : Int32} {E : Nat} (h : sp_years σ x1 x2 x3 = .inr E) : E = 0 ∨ E = 1 := by
  simp only [sp_years] at h
  (repeat' split at h) <;> cases h <;> first | exact Or.inl rfl | exact Or.inr rfl
theorem lx_years (hV : lw_V σ P S I) (hN : lw_N σ P S I) (hC : lw_C P S) (hI : lw_I σ) (hd : 80 ≤ d) (x1 x2 x3 : Int32) : mm_C G d 270 [.ref 0, .int x1, .int x2, .int x3, .ref 86] (I, P, J, S, nc, ns) (lw_RX lw_fi (fun E => E + 1) (sp_years σ x1 x2 x3) σ σ S nc ns) := by
  have h86 := hC.2.2.2
  obtain ⟨r, hgo, I', P', J', nc', ns', hr, hnc, hns, hV', hN', hC'⟩ := vc_years (G := G) (d := d - 1) (J := J) (nc := nc) (ns := ns) hV hN hC hI (by omega) x1 x2 x3
  obtain ⟨L, hW, dV⟩ := hV
  subst hr
  cases ho : sp_years σ x1 x2 x3 with
  | inl z =>
    rw [ho] at hgo
    show mm_W _ _ 270 (mm_blk 270 0) [.ref 0, .int x1, .int x2, .int x3, .ref 86, .null] [] _ _
    refine mm_w1 rfl ?_
    refine mm_wv (vb_i 0) rfl (by decide) ?_
    refine mm_w1 rfl ?_
    refine mm_w1 rfl ?_
    refine mm_w1 rfl ?_
    refine mm_w1 rfl ?_
    refine mm_cvX (vb_cv (vV_S0 hW.1) rfl rfl rfl rfl) (by decide) (by omega) hgo rfl ?_
    refine mm_w1 rfl ?_
    refine mm_wls h86 (by decide) (by decide) ?_
    refine mm_wgoto ?_
    refine mm_wv (vb_i 0) rfl (by decide) ?_
    refine mm_wr rfl rfl rfl ?_
    exact ⟨_, _, _, _, _, _, rfl, hnc, hns, hV', hN', hC', rfl, by rw [vb_up1]; rfl⟩
  | inr E =>
    rw [ho] at hgo
    rcases le_years ho with rfl | rfl
    · show mm_W _ _ 270 (mm_blk 270 0) [.ref 0, .int x1, .int x2, .int x3, .ref 86, .null] [] _ _
      refine mm_w1 rfl ?_
      refine mm_wv (vb_i 0) rfl (by decide) ?_
      refine mm_w1 rfl ?_
      refine mm_w1 rfl ?_
      refine mm_w1 rfl ?_
      refine mm_w1 rfl ?_
      refine mm_wccat (vb_cv (vV_S0 hW.1) rfl rfl rfl rfl) (by decide) (by omega) hgo rfl rfl ⟨of_decide_eq_true rfl, rfl⟩ ?_
      refine mm_wv (vb_i 1) rfl (by decide) ?_
      refine mm_wr rfl rfl rfl ?_
      exact ⟨_, _, _, _, _, _, rfl, hnc, hns, hV', hN', hC', rfl⟩
    · show mm_W _ _ 270 (mm_blk 270 0) [.ref 0, .int x1, .int x2, .int x3, .ref 86, .null] [] _ _
      refine mm_w1 rfl ?_
      refine mm_wv (vb_i 0) rfl (by decide) ?_
      refine mm_w1 rfl ?_
      refine mm_w1 rfl ?_
      refine mm_w1 rfl ?_
      refine mm_w1 rfl ?_
      refine mm_wccat (vb_cv (vV_S0 hW.1) rfl rfl rfl rfl) (by decide) (by omega) hgo rfl rfl ⟨of_decide_eq_true rfl, rfl⟩ ?_
      refine mm_wv (vb_i 2) rfl (by decide) ?_
      refine mm_wr rfl rfl rfl ?_
      exact ⟨_, _, _, _, _, _, rfl, hnc, hns, hV', hN', hC', rfl⟩
theorem le_owes {x1 : Int32} {E : Nat} (h : sp_owes σ x1 = .inr E) : E = 0 := by
  simp only [sp_owes] at h
  (repeat' split at h) <;> cases h <;> rfl
theorem lx_owes (hV : lw_V σ P S I) (hN : lw_N σ P S I) (hC : lw_C P S) (hI : lw_I σ) (hd : 80 ≤ d) (x1 : Int32) : mm_C G d 271 [.ref 0, .int x1, .ref 86] (I, P, J, S, nc, ns) (lw_RX lw_fi (fun E => E + 1) (sp_owes σ x1) σ σ S nc ns) := by
  have h86 := hC.2.2.2
  obtain ⟨r, hgo, I', P', J', nc', ns', hr, hnc, hns, hV', hN', hC'⟩ := vc_owes (G := G) (d := d - 1) (J := J) (nc := nc) (ns := ns) hV hN hC hI (by omega) x1
  obtain ⟨L, hW, dV⟩ := hV
  subst hr
  cases ho : sp_owes σ x1 with
  | inl z =>
    rw [ho] at hgo
    show mm_W _ _ 271 (mm_blk 271 0) [.ref 0, .int x1, .ref 86, .null] [] _ _
    refine mm_w1 rfl ?_
    refine mm_wv (vb_i 0) rfl (by decide) ?_
    refine mm_w1 rfl ?_
    refine mm_w1 rfl ?_
    refine mm_cvX (vb_cv (vV_S0 hW.1) rfl rfl rfl rfl) (by decide) (by omega) hgo rfl ?_
    refine mm_w1 rfl ?_
    refine mm_wls h86 (by decide) (by decide) ?_
    refine mm_wgoto ?_
    refine mm_wv (vb_i 0) rfl (by decide) ?_
    refine mm_wr rfl rfl rfl ?_
    exact ⟨_, _, _, _, _, _, rfl, hnc, hns, hV', hN', hC', rfl, by rw [vb_up1]; rfl⟩
  | inr E =>
    rw [ho] at hgo
    obtain rfl := le_owes ho
    show mm_W _ _ 271 (mm_blk 271 0) [.ref 0, .int x1, .ref 86, .null] [] _ _
    refine mm_w1 rfl ?_
    refine mm_wv (vb_i 0) rfl (by decide) ?_
    refine mm_w1 rfl ?_
    refine mm_w1 rfl ?_
    refine mm_wccat (vb_cv (vV_S0 hW.1) rfl rfl rfl rfl) (by decide) (by omega) hgo rfl rfl ⟨of_decide_eq_true rfl, rfl⟩ ?_
    refine mm_wv (vb_i 1) rfl (by decide) ?_
    refine mm_wr rfl rfl rfl ?_
    exact ⟨_, _, _, _, _, _, rfl, hnc, hns, hV', hN', hC', rfl⟩
theorem le_parts {x1 : Int32} {E : Nat} (h : sp_parts σ x1 = .inr E) : E = 0 := by
  simp only [sp_parts] at h
  (repeat' split at h) <;> cases h <;> rfl
theorem lx_parts (hV : lw_V σ P S I) (hN : lw_N σ P S I) (hC : lw_C P S) (hI : lw_I σ) (hd : 80 ≤ d) (x1 : Int32) : mm_C G d 272 [.ref 0, .int x1, .ref 86] (I, P, J, S, nc, ns) (lw_RX lw_fi (fun E => E + 1) (sp_parts σ x1) σ σ S nc ns) := by
  have h86 := hC.2.2.2
  obtain ⟨r, hgo, I', P', J', nc', ns', hr, hnc, hns, hV', hN', hC'⟩ := vc_parts (G := G) (d := d - 1) (J := J) (nc := nc) (ns := ns) hV hN hC hI (by omega) x1
  obtain ⟨L, hW, dV⟩ := hV
  subst hr
  cases ho : sp_parts σ x1 with
  | inl z =>
    rw [ho] at hgo
    show mm_W _ _ 272 (mm_blk 272 0) [.ref 0, .int x1, .ref 86, .null] [] _ _
    refine mm_w1 rfl ?_
    refine mm_wv (vb_i 0) rfl (by decide) ?_
    refine mm_w1 rfl ?_
    refine mm_w1 rfl ?_
    refine mm_cvX (vb_cv (vV_S0 hW.1) rfl rfl rfl rfl) (by decide) (by omega) hgo rfl ?_
    refine mm_w1 rfl ?_
    refine mm_wls h86 (by decide) (by decide) ?_
    refine mm_wgoto ?_
    refine mm_wv (vb_i 0) rfl (by decide) ?_
    refine mm_wr rfl rfl rfl ?_
    exact ⟨_, _, _, _, _, _, rfl, hnc, hns, hV', hN', hC', rfl, by rw [vb_up1]; rfl⟩
  | inr E =>
    rw [ho] at hgo
    obtain rfl := le_parts ho
    show mm_W _ _ 272 (mm_blk 272 0) [.ref 0, .int x1, .ref 86, .null] [] _ _
    refine mm_w1 rfl ?_
    refine mm_wv (vb_i 0) rfl (by decide) ?_
    refine mm_w1 rfl ?_
    refine mm_w1 rfl ?_
    refine mm_wccat (vb_cv (vV_S0 hW.1) rfl rfl rfl rfl) (by decide) (by omega) hgo rfl rfl ⟨of_decide_eq_true rfl, rfl⟩ ?_
    refine mm_wv (vb_i 1) rfl (by decide) ?_
    refine mm_wr rfl rfl rfl ?_
    exact ⟨_, _, _, _, _, _, rfl, hnc, hns, hV', hN', hC', rfl⟩
theorem le_safe {x1 : Int32} {E : Nat} (h : sp_safe σ x1 = .inr E) : E = 0 := by
  simp only [sp_safe] at h
  (repeat' split at h) <;> cases h <;> rfl
theorem lx_safe (hV : lw_V σ P S I) (hN : lw_N σ P S I) (hC : lw_C P S) (hI : lw_I σ) (hd : 80 ≤ d) (x1 : Int32) : mm_C G d 273 [.ref 0, .int x1, .ref 86] (I, P, J, S, nc, ns) (lw_RX lw_fi (fun E => E + 1) (sp_safe σ x1) σ σ S nc ns) := by
  have h86 := hC.2.2.2
  obtain ⟨r, hgo, I', P', J', nc', ns', hr, hnc, hns, hV', hN', hC'⟩ := vc_safe (G := G) (d := d - 1) (J := J) (nc := nc) (ns := ns) hV hN hC hI (by omega) x1
  obtain ⟨L, hW, dV⟩ := hV
  subst hr
  cases ho : sp_safe σ x1 with
  | inl z =>
    rw [ho] at hgo
    show mm_W _ _ 273 (mm_blk 273 0) [.ref 0, .int x1, .ref 86, .null] [] _ _
    refine mm_w1 rfl ?_
    refine mm_wv (vb_i 0) rfl (by decide) ?_
    refine mm_w1 rfl ?_
    refine mm_w1 rfl ?_
    refine mm_cvX (vb_cv (vV_S0 hW.1) rfl rfl rfl rfl) (by decide) (by omega) hgo rfl ?_
    refine mm_w1 rfl ?_
    refine mm_wls h86 (by decide) (by decide) ?_
    refine mm_wgoto ?_
    refine mm_wv (vb_i 0) rfl (by decide) ?_
    refine mm_wr rfl rfl rfl ?_
    exact ⟨_, _, _, _, _, _, rfl, hnc, hns, hV', hN', hC', rfl, by rw [vb_up1]; rfl⟩
  | inr E =>
    rw [ho] at hgo
    obtain rfl := le_safe ho
    show mm_W _ _ 273 (mm_blk 273 0) [.ref 0, .int x1, .ref 86, .null] [] _ _
    refine mm_w1 rfl ?_
    refine mm_wv (vb_i 0) rfl (by decide) ?_
    refine mm_w1 rfl ?_
    refine mm_w1 rfl ?_
    refine mm_wccat (vb_cv (vV_S0 hW.1) rfl rfl rfl rfl) (by decide) (by omega) hgo rfl rfl ⟨of_decide_eq_true rfl, rfl⟩ ?_
    refine mm_wv (vb_i 1) rfl (by decide) ?_
    refine mm_wr rfl rfl rfl ?_
    exact ⟨_, _, _, _, _, _, rfl, hnc, hns, hV', hN', hC', rfl⟩
theorem le_reach {x1 : Int32} {E : Nat} (h : sp_reach σ x1 = .inr E) : E = 0 := by
  simp only [sp_reach] at h
  (repeat' split at h) <;> cases h <;> rfl
theorem lx_reach (hV : lw_V σ P S I) (hN : lw_N σ P S I) (hC : lw_C P S) (hI : lw_I σ) (hd : 80 ≤ d) (x1 : Int32) : mm_C G d 274 [.ref 0, .int x1, .ref 86] (I, P, J, S, nc, ns) (lw_RX lw_fi (fun E => E + 1) (sp_reach σ x1) σ σ S nc ns) := by
  have h86 := hC.2.2.2
  obtain ⟨r, hgo, I', P', J', nc', ns', hr, hnc, hns, hV', hN', hC'⟩ := vc_reach (G := G) (d := d - 1) (J := J) (nc := nc) (ns := ns) hV hN hC hI (by omega) x1
  obtain ⟨L, hW, dV⟩ := hV
  subst hr
  cases ho : sp_reach σ x1 with
  | inl z =>
    rw [ho] at hgo
    show mm_W _ _ 274 (mm_blk 274 0) [.ref 0, .int x1, .ref 86, .null] [] _ _
    refine mm_w1 rfl ?_
    refine mm_wv (vb_i 0) rfl (by decide) ?_
    refine mm_w1 rfl ?_
    refine mm_w1 rfl ?_
    refine mm_cvX (vb_cv (vV_S0 hW.1) rfl rfl rfl rfl) (by decide) (by omega) hgo rfl ?_
    refine mm_w1 rfl ?_
    refine mm_wls h86 (by decide) (by decide) ?_
    refine mm_wgoto ?_
    refine mm_wv (vb_i 0) rfl (by decide) ?_
    refine mm_wr rfl rfl rfl ?_
    exact ⟨_, _, _, _, _, _, rfl, hnc, hns, hV', hN', hC', rfl, by rw [vb_up1]; rfl⟩
  | inr E =>
    rw [ho] at hgo
    obtain rfl := le_reach ho
    show mm_W _ _ 274 (mm_blk 274 0) [.ref 0, .int x1, .ref 86, .null] [] _ _
    refine mm_w1 rfl ?_
    refine mm_wv (vb_i 0) rfl (by decide) ?_
    refine mm_w1 rfl ?_
    refine mm_w1 rfl ?_
    refine mm_wccat (vb_cv (vV_S0 hW.1) rfl rfl rfl rfl) (by decide) (by omega) hgo rfl rfl ⟨of_decide_eq_true rfl, rfl⟩ ?_
    refine mm_wv (vb_i 1) rfl (by decide) ?_
    refine mm_wr rfl rfl rfl ?_
    exact ⟨_, _, _, _, _, _, rfl, hnc, hns, hV', hN', hC', rfl⟩
theorem le_guard {x1 : Int32} {E : Nat} (h : sp_guard σ x1 = .inr E) : E = 0 := by
  simp only [sp_guard] at h
  (repeat' split at h) <;> cases h <;> rfl
theorem lx_guard (hV : lw_V σ P S I) (hN : lw_N σ P S I) (hC : lw_C P S) (hI : lw_I σ) (hd : 80 ≤ d) (x1 : Int32) : mm_C G d 275 [.ref 0, .int x1, .ref 86] (I, P, J, S, nc, ns) (lw_RX lw_fi (fun E => E + 1) (sp_guard σ x1) σ σ S nc ns) := by
  have h86 := hC.2.2.2
  obtain ⟨r, hgo, I', P', J', nc', ns', hr, hnc, hns, hV', hN', hC'⟩ := vc_guard (G := G) (d := d - 1) (J := J) (nc := nc) (ns := ns) hV hN hC hI (by omega) x1
  obtain ⟨L, hW, dV⟩ := hV
  subst hr
  cases ho : sp_guard σ x1 with
  | inl z =>
    rw [ho] at hgo
    show mm_W _ _ 275 (mm_blk 275 0) [.ref 0, .int x1, .ref 86, .null] [] _ _
    refine mm_w1 rfl ?_
    refine mm_wv (vb_i 0) rfl (by decide) ?_
    refine mm_w1 rfl ?_
    refine mm_w1 rfl ?_
    refine mm_cvX (vb_cv (vV_S0 hW.1) rfl rfl rfl rfl) (by decide) (by omega) hgo rfl ?_
    refine mm_w1 rfl ?_
    refine mm_wls h86 (by decide) (by decide) ?_
    refine mm_wgoto ?_
    refine mm_wv (vb_i 0) rfl (by decide) ?_
    refine mm_wr rfl rfl rfl ?_
    exact ⟨_, _, _, _, _, _, rfl, hnc, hns, hV', hN', hC', rfl, by rw [vb_up1]; rfl⟩
  | inr E =>
    rw [ho] at hgo
    obtain rfl := le_guard ho
    show mm_W _ _ 275 (mm_blk 275 0) [.ref 0, .int x1, .ref 86, .null] [] _ _
    refine mm_w1 rfl ?_
    refine mm_wv (vb_i 0) rfl (by decide) ?_
    refine mm_w1 rfl ?_
    refine mm_w1 rfl ?_
    refine mm_wccat (vb_cv (vV_S0 hW.1) rfl rfl rfl rfl) (by decide) (by omega) hgo rfl rfl ⟨of_decide_eq_true rfl, rfl⟩ ?_
    refine mm_wv (vb_i 1) rfl (by decide) ?_
    refine mm_wr rfl rfl rfl ?_
    exact ⟨_, _, _, _, _, _, rfl, hnc, hns, hV', hN', hC', rfl⟩
theorem le_key {x1 : Int32} {E : Nat} (h : sp_key σ x1 = .inr E) : E = 0 := by
  simp only [sp_key] at h
  (repeat' split at h) <;> cases h <;> rfl
theorem lx_key (hV : lw_V σ P S I) (hN : lw_N σ P S I) (hC : lw_C P S) (hI : lw_I σ) (hd : 80 ≤ d) (x1 : Int32) : mm_C G d 276 [.ref 0, .int x1, .ref 86] (I, P, J, S, nc, ns) (lw_RX lw_fi (fun E => E + 1) (sp_key σ x1) σ σ S nc ns) := by
  have h86 := hC.2.2.2
  obtain ⟨r, hgo, I', P', J', nc', ns', hr, hnc, hns, hV', hN', hC'⟩ := vc_key (G := G) (d := d - 1) (J := J) (nc := nc) (ns := ns) hV hN hC hI (by omega) x1
  obtain ⟨L, hW, dV⟩ := hV
  subst hr
  cases ho : sp_key σ x1 with
  | inl z =>
    rw [ho] at hgo
    show mm_W _ _ 276 (mm_blk 276 0) [.ref 0, .int x1, .ref 86, .null] [] _ _
    refine mm_w1 rfl ?_
    refine mm_wv (vb_i 0) rfl (by decide) ?_
    refine mm_w1 rfl ?_
    refine mm_w1 rfl ?_
    refine mm_cvX (vb_cv (vV_S0 hW.1) rfl rfl rfl rfl) (by decide) (by omega) hgo rfl ?_
    refine mm_w1 rfl ?_
    refine mm_wls h86 (by decide) (by decide) ?_
    refine mm_wgoto ?_
    refine mm_wv (vb_i 0) rfl (by decide) ?_
    refine mm_wr rfl rfl rfl ?_
    exact ⟨_, _, _, _, _, _, rfl, hnc, hns, hV', hN', hC', rfl, by rw [vb_up1]; rfl⟩
  | inr E =>
    rw [ho] at hgo
    obtain rfl := le_key ho
    show mm_W _ _ 276 (mm_blk 276 0) [.ref 0, .int x1, .ref 86, .null] [] _ _
    refine mm_w1 rfl ?_
    refine mm_wv (vb_i 0) rfl (by decide) ?_
    refine mm_w1 rfl ?_
    refine mm_w1 rfl ?_
    refine mm_wccat (vb_cv (vV_S0 hW.1) rfl rfl rfl rfl) (by decide) (by omega) hgo rfl rfl ⟨of_decide_eq_true rfl, rfl⟩ ?_
    refine mm_wv (vb_i 1) rfl (by decide) ?_
    refine mm_wr rfl rfl rfl ?_
    exact ⟨_, _, _, _, _, _, rfl, hnc, hns, hV', hN', hC', rfl⟩
theorem le_regret {x1 x2 : Int32} {E : Nat} (h : sp_regret σ x1 x2 = .inr E) : E = 0 := by
  simp only [sp_regret] at h
  (repeat' split at h) <;> cases h <;> rfl
theorem lx_regret (hV : lw_V σ P S I) (hN : lw_N σ P S I) (hC : lw_C P S) (hI : lw_I σ) (hd : 80 ≤ d) (x1 x2 : Int32) : mm_C G d 277 [.ref 0, .int x1, .int x2, .ref 86] (I, P, J, S, nc, ns) (lw_RX lw_fi (fun E => E + 1) (sp_regret σ x1 x2) σ σ S nc ns) := by
  have h86 := hC.2.2.2
  obtain ⟨r, hgo, I', P', J', nc', ns', hr, hnc, hns, hV', hN', hC'⟩ := vc_regret (G := G) (d := d - 1) (J := J) (nc := nc) (ns := ns) hV hN hC hI (by omega) x1 x2
  obtain ⟨L, hW, dV⟩ := hV
  subst hr
  cases ho : sp_regret σ x1 x2 with
  | inl z =>
    rw [ho] at hgo
    show mm_W _ _ 277 (mm_blk 277 0) [.ref 0, .int x1, .int x2, .ref 86, .null] [] _ _
    refine mm_w1 rfl ?_
    refine mm_wv (vb_i 0) rfl (by decide) ?_
    refine mm_w1 rfl ?_
    refine mm_w1 rfl ?_
    refine mm_w1 rfl ?_
    refine mm_cvX (vb_cv (vV_S0 hW.1) rfl rfl rfl rfl) (by decide) (by omega) hgo rfl ?_
    refine mm_w1 rfl ?_
    refine mm_wls h86 (by decide) (by decide) ?_
    refine mm_wgoto ?_
    refine mm_wv (vb_i 0) rfl (by decide) ?_
    refine mm_wr rfl rfl rfl ?_
    exact ⟨_, _, _, _, _, _, rfl, hnc, hns, hV', hN', hC', rfl, by rw [vb_up1]; rfl⟩
  | inr E =>
    rw [ho] at hgo
    obtain rfl := le_regret ho
    show mm_W _ _ 277 (mm_blk 277 0) [.ref 0, .int x1, .int x2, .ref 86, .null] [] _ _
    refine mm_w1 rfl ?_
    refine mm_wv (vb_i 0) rfl (by decide) ?_
    refine mm_w1 rfl ?_
    refine mm_w1 rfl ?_
    refine mm_w1 rfl ?_
    refine mm_wccat (vb_cv (vV_S0 hW.1) rfl rfl rfl rfl) (by decide) (by omega) hgo rfl rfl ⟨of_decide_eq_true rfl, rfl⟩ ?_
    refine mm_wv (vb_i 1) rfl (by decide) ?_
    refine mm_wr rfl rfl rfl ?_
    exact ⟨_, _, _, _, _, _, rfl, hnc, hns, hV', hN', hC', rfl⟩
theorem le_whose {x1 : Int32} {E : Nat} (h : sp_whose σ x1 = .inr E) : E = 0 := by
  simp only [sp_whose] at h
  (repeat' split at h) <;> cases h <;> rfl
theorem lx_whose (hV : lw_V σ P S I) (hN : lw_N σ P S I) (hC : lw_C P S) (hI : lw_I σ) (hd : 80 ≤ d) (x1 : Int32) : mm_C G d 278 [.ref 0, .int x1, .ref 86] (I, P, J, S, nc, ns) (lw_RX lw_fi (fun E => E + 1) (sp_whose σ x1) σ σ S nc ns) := by
  have h86 := hC.2.2.2
  obtain ⟨r, hgo, I', P', J', nc', ns', hr, hnc, hns, hV', hN', hC'⟩ := vc_whose (G := G) (d := d - 1) (J := J) (nc := nc) (ns := ns) hV hN hC hI (by omega) x1
  obtain ⟨L, hW, dV⟩ := hV
  subst hr
  cases ho : sp_whose σ x1 with
  | inl z =>
    rw [ho] at hgo
    show mm_W _ _ 278 (mm_blk 278 0) [.ref 0, .int x1, .ref 86, .null] [] _ _
    refine mm_w1 rfl ?_
    refine mm_wv (vb_i 0) rfl (by decide) ?_
    refine mm_w1 rfl ?_
    refine mm_w1 rfl ?_
    refine mm_cvX (vb_cv (vV_S0 hW.1) rfl rfl rfl rfl) (by decide) (by omega) hgo rfl ?_
    refine mm_w1 rfl ?_
    refine mm_wls h86 (by decide) (by decide) ?_
    refine mm_wgoto ?_
    refine mm_wv (vb_i 0) rfl (by decide) ?_
    refine mm_wr rfl rfl rfl ?_
    exact ⟨_, _, _, _, _, _, rfl, hnc, hns, hV', hN', hC', rfl, by rw [vb_up1]; rfl⟩
  | inr E =>
    rw [ho] at hgo
    obtain rfl := le_whose ho
    show mm_W _ _ 278 (mm_blk 278 0) [.ref 0, .int x1, .ref 86, .null] [] _ _
    refine mm_w1 rfl ?_
    refine mm_wv (vb_i 0) rfl (by decide) ?_
    refine mm_w1 rfl ?_
    refine mm_w1 rfl ?_
    refine mm_wccat (vb_cv (vV_S0 hW.1) rfl rfl rfl rfl) (by decide) (by omega) hgo rfl rfl ⟨of_decide_eq_true rfl, rfl⟩ ?_
    refine mm_wv (vb_i 1) rfl (by decide) ?_
    refine mm_wr rfl rfl rfl ?_
    exact ⟨_, _, _, _, _, _, rfl, hnc, hns, hV', hN', hC', rfl⟩
end LWX
