/-! AN OPERAND OF THE REFERENCE -/
def nx_c (W : List Nat) : Nat := W.countP (fun a => decide (14 ≤ a))
def nx_V (n a0 D : Nat) (W : List Nat) (C : List (Nat × Int32)) (s : Nat) : Prop := s ≤ n ∧ D ≤ 6 ∧ D = nx_c W + 1 ∧ (∀ a, a ∈ W → 3 ≤ a ∧ a ≤ 14) ∧ a0 + (px_rc C).length + W.length + 1 ≤ 2 * s ∧ W.length ≤ s
def nx_S (b : Nat → Int32) (n a0 D : Nat) (W : List Nat) (t : Nat → Bool) (C : List (Nat × Int32)) (s : Nat) (I : Nat → Nat → Int32) (J : Nat → Nat → Int64) : Prop := nt_D b n I ∧ nt_tk b n s I J ∧ nx_E a0 D W t C I ∧ I 60 12 = vb_i 0 ∧ nx_V n a0 D W C s
def nx_X (n a0 : Nat) (x : Nat × Nat) (I : Nat → Nat → Int32) : Prop := I 60 12 = vb_i x.1 ∧ I 60 13 = vb_i x.2 ∧ 1 ≤ x.1 ∧ x.1 ≤ 5 ∧ ∃ D W t C, nx_E a0 D W t C I ∧ (∀ a, a ∈ W → 3 ≤ a ∧ a ≤ 14) ∧ a0 + (px_rc C).length + W.length ≤ 2 * n + 2 ∧ W.length ≤ n
section NXO
variable {G : mm_G} {d : Nat} {I : Nat → Nat → Int32} {P : Nat → Nat → Nat} {J : Nat → Nat → Int64} {S : List (Nat × Nat)} {nc ns : Nat} {μ : mm_M} {b : Nat → Int32} {n : Nat}
variable {a0 D s : Nat} {W : List Nat} {t : Nat → Bool} {C : List (Nat × Int32)}
theorem nt_n3 (c : Int32) : tx_kd c ≠ 3 := by
  simp only [tx_kd]
  (repeat' split) <;> first
    | decide
    | (rename_i h9; rcases h9 with h9 | h9 | h9 | h9 | h9 | h9 | h9 | h9 | h9 <;> rw [h9] <;> decide)
theorem nt_so2 {K : Nat} : nt_so K = 2 ↔ K = 2 := by rw [nt_so]; (repeat' split) <;> (constructor <;> intro h <;> omega)
theorem nt_so1 {K : Nat} : nt_so K = 1 ↔ K = 1 := by rw [nt_so]; (repeat' split) <;> (constructor <;> intro h <;> omega)
theorem nt_so0 {K : Nat} : nt_so K = 0 ↔ K = 0 := by rw [nt_so]; (repeat' split) <;> (constructor <;> intro h <;> omega)
theorem nt_soK2 : (nt_so (tx_kd (b s)) = 2) ↔ (tx_K b s = 2 ∨ tx_K b s = 3) := by
  have := nt_n3 (b s)
  rw [nt_so2, tx_K]
  by_cases e : tx_kd (b s) = 2 ∧ 4 < tx_E b s - s
  · rw [if_pos e]; exact ⟨fun _ => Or.inr rfl, fun _ => e.1⟩
  · rw [if_neg e]; constructor <;> intro h <;> omega
theorem nt_soK1 : (nt_so (tx_kd (b s)) = 1) ↔ tx_K b s = 1 := by
  rw [nt_so1, tx_K]
  by_cases e : tx_kd (b s) = 2 ∧ 4 < tx_E b s - s
  · rw [if_pos e]; constructor <;> intro h <;> omega
  · rw [if_neg e]
theorem nt_soK0 : (nt_so (tx_kd (b s)) = 0) ↔ tx_K b s = 0 := by
  rw [nt_so0, tx_K]
  by_cases e : tx_kd (b s) = 2 ∧ 4 < tx_E b s - s
  · rw [if_pos e]; constructor <;> intro h <;> omega
  · rw [if_neg e]
theorem nt_so4 : nt_so (tx_kd (b s)) ≤ 4 := by rw [nt_so]; (repeat' split) <;> decide
theorem nt_kd1 (h : tx_K b s = 1) : tx_kd (b s) = 1 := by
  rw [tx_K] at h; split at h <;> omega
theorem nt_kd2 (h : tx_K b s = 2) : tx_kd (b s) = 2 := by
  rw [tx_K] at h; split at h <;> omega
theorem nt_kd3 (h : tx_K b s = 3) : tx_kd (b s) = 2 ∧ 4 < tx_E b s - s := by
  rw [tx_K] at h; split at h
  · assumption
  · exfalso
    have : tx_kd (b s) ≠ 3 := by
      simp only [tx_kd]
      (repeat' split) <;> first
        | decide
        | (rename_i h9; rcases h9 with h9 | h9 | h9 | h9 | h9 | h9 | h9 | h9 | h9 <;> rw [h9] <;> decide)
    exact this h
theorem nt_val (hk : nt_tk b n s I J) (h : tx_K b s = 2) : I 60 20 = vb_i (tx_V b s (tx_E b s - s)) := by
  have h1 := tx_num h
  rw [hk.2.2.2.2.1 (nt_kd2 h), show min (tx_E b s - s) 4 = tx_E b s - s by omega]; exact h1.2.1
theorem m_good0 (hM : vm_isM P S) (h12 : I 60 12 = vb_i 0) : mm_Call G d 151 [.ref 60] (I, P, J, S, nc, ns) (.inl (some (.int (vb_i 1))), (I, P, J, S, nc, ns)) := m_good hM h12 (by decide)
theorem m_good1 {f : Nat} (hM : vm_isM P S) (h12 : I 60 12 = vb_i f) (h1 : 1 ≤ f) (h5 : f ≤ 5) : mm_Call G d 151 [.ref 60] (I, P, J, S, nc, ns) (.inl (some (.int (vb_i 0))), (I, P, J, S, nc, ns)) := by
  have := m_good (G := G) (d := d) (J := J) (nc := nc) (ns := ns) hM h12 h5
  rw [decide_eq_false (by omega)] at this; exact this
theorem m_sg1 {c : Nat} (hM : vm_isM P S) (hb : tx_ok b n) (hs : s ≤ n) (hk : nt_tk b n s I J) (hc : nt_sg c) (h : tx_K b s = c) : mm_Call G d 152 [.ref 60, .int (vb_i c)] (I, P, J, S, nc, ns) (.inl (some (.int (vb_i 1))), (I, P, J, S, nc, ns)) := by
  have := m_isSign (G := G) (d := d) (P := P) (S := S) (nc := nc) (ns := ns) hM hb hs hk hc
  rw [decide_eq_true h] at this; exact this
theorem m_sg0 {c : Nat} (hM : vm_isM P S) (hb : tx_ok b n) (hs : s ≤ n) (hk : nt_tk b n s I J) (hc : nt_sg c) (h : ¬ tx_K b s = c) : mm_Call G d 152 [.ref 60, .int (vb_i c)] (I, P, J, S, nc, ns) (.inl (some (.int (vb_i 0))), (I, P, J, S, nc, ns)) := by
  have := m_isSign (G := G) (d := d) (P := P) (S := S) (nc := nc) (ns := ns) hM hb hs hk hc
  rw [decide_eq_false h] at this; exact this
theorem m_kw {k : Nat} (hM : vm_isM P S) (hs : s ≤ n) (hn : n ≤ 700) (hb : tx_ok b n) (hk : nt_tk b n s I J) (hd : 2 ≤ d) (h : tx_w b s = k) (h16 : k < 16) : mm_Call G d 149 [.ref 60] (I, P, J, S, nc, ns) (.inl (some (.int (vb_i k))), (I, P, J, S, nc, ns)) := by
  have := m_known (G := G) (d := d) (P := P) (S := S) (nc := nc) (ns := ns) hM hs hn hb hk hd
  rw [nt_kw, if_pos (by omega), h] at this; exact this
theorem m_kw0 (hM : vm_isM P S) (hs : s ≤ n) (hn : n ≤ 700) (hb : tx_ok b n) (hk : nt_tk b n s I J) (hd : 2 ≤ d) (h : ¬ tx_w b s < 16) : mm_Call G d 149 [.ref 60] (I, P, J, S, nc, ns) (.inl (some (.int (-1))), (I, P, J, S, nc, ns)) := by
  have := m_known (G := G) (d := d) (P := P) (S := S) (nc := nc) (ns := ns) hM hs hn hb hk hd
  rw [nt_kw, if_neg h] at this; exact this
theorem m_deeper (hM : vm_isM P S) (dE : nx_E a0 D W t C I) (hD : D < 6) : mm_C G d 162 [.ref 60] (I, P, J, S, nc, ns) (vb_R none (fun I' => nx_E a0 (D + 1) W (rf_up t (D + 1) false) C I' ∧ nx_g a0 I I') P J S nc ns) := by
  have h29 := dE.2.2.1
  show mm_W _ _ 162 (mm_blk 162 0) [.ref 60] [] _ _
  refine mm_w1 rfl ?_
  refine mm_wgiv _ (vM_S60 hM) (by decide) (by decide) h29 ?_
  refine mm_wv (vb_i 6) rfl (by decide) ?_
  refine mm_nicge (by omega) (by omega) ?_ ?_
  · intro h6
    omega
  · intro h6
    refine mm_w1 rfl ?_
    refine mm_w1 rfl ?_
    refine mm_wgiv _ (vM_S60 hM) (by decide) (by decide) h29 ?_
    refine mm_wv (vb_i 1) rfl (by decide) ?_
    refine mm_nadd ?_
    refine mm_wpiN (vM_S60 hM) (by decide) (by decide) ?_
    intro I1 hI1
    have h291 : I1 60 29 = vb_i (D + 1) := by rw [hI1, vb_up1]
    refine mm_w1 rfl ?_
    refine mm_wgr (vM_S60 hM) (by decide) (by decide) (vM_P60_37 hM) (vM_a75 hM) ?_
    refine mm_w1 rfl ?_
    refine mm_wgiv _ (vM_S60 hM) (by decide) (by decide) h291 ?_
    refine mm_wv (vb_i 0) rfl (by decide) ?_
    refine mm_wzsN (vM_S75 hM) (by decide) (by omega) (Or.inl rfl) ?_
    intro I2 hI2
    have _u := hI2
    refine mm_wr rfl rfl rfl ?_
    exact ⟨_, ⟨by rw [hI2, hI1]; exact dE.deep, by rw [hI2, hI1]; exact (nx_g.rf.u60 (by decide) (by decide)).u75⟩, rfl⟩
theorem m_deeper6 (hM : vm_isM P S) (hb : tx_ok b n) (hs : s ≤ n) (hk : nt_tk b n s I J) (dE : nx_E a0 D W t C I) (h12 : I 60 12 = vb_i 0) (hD : D = 6) (hd : 1 ≤ d) : mm_C G d 162 [.ref 60] (I, P, J, S, nc, ns) (vb_R none (fun I' => I' = mm_up (mm_up I 60 12 (vb_i (if px_cb b s then 2 else 1))) 60 13 (vb_i s)) P J S nc ns) := by
  have h29 := dE.2.2.1
  have h17 := hk.2.2.2.1
  have h18 := hk.2.1
  have hso := nt_so4 (b := b) (s := s)
  show mm_W _ _ 162 (mm_blk 162 0) [.ref 60] [] _ _
  refine mm_w1 rfl ?_
  refine mm_wgiv _ (vM_S60 hM) (by decide) (by decide) h29 ?_
  refine mm_wv (vb_i 6) rfl (by decide) ?_
  refine mm_nicge (by omega) (by omega) ?_ ?_
  · intro h6
    refine mm_w1 rfl ?_
    refine mm_w1 rfl ?_
    refine mm_wgiv _ (vM_S60 hM) (by decide) (by decide) h17 ?_
    refine mm_wv (vb_i 2) rfl (by decide) ?_
    refine mm_niceq (by omega) (by omega) ?_ ?_
    · intro h36
      refine mm_wv (vb_i 2) rfl (by decide) ?_
      refine mm_wgoto ?_
      refine mm_cvn (vb_cv (vM_S60 hM) rfl rfl rfl rfl) (by decide) (by omega) (m_wrong0 hM h12 h18) ?_
      intro I1 hI1
      refine mm_wr rfl rfl rfl ?_
      first
        | (rw [show px_cb b s = true from decide_eq_true (by have := (nt_soK2 (b := b) (s := s)).mp h36; omega)]; exact ⟨_, hI1, rfl⟩)
        | (rw [show px_cb b s = true from decide_eq_true (by have := (nt_soK1 (b := b) (s := s)).mp h44; omega)]; exact ⟨_, hI1, rfl⟩)
        | (rw [show px_cb b s = true from decide_eq_true (by have := of_decide_eq_true h53; omega)]; exact ⟨_, hI1, rfl⟩)
        | (rw [show px_cb b s = false from decide_eq_false (by
            have k1 : ¬ (tx_K b s = 2 ∨ tx_K b s = 3) := fun e => h36 ((nt_soK2 (b := b) (s := s)).mpr e)
            have k2 : ¬ tx_K b s = 1 := fun e => h44 ((nt_soK1 (b := b) (s := s)).mpr e)
            have k3 := of_decide_eq_false h53
            omega)]; exact ⟨_, hI1, rfl⟩)
    · intro h36
      refine mm_w1 rfl ?_
      refine mm_wgiv _ (vM_S60 hM) (by decide) (by decide) h17 ?_
      refine mm_wv (vb_i 1) rfl (by decide) ?_
      refine mm_niceq (by omega) (by omega) ?_ ?_
      · intro h44
        refine mm_wv (vb_i 2) rfl (by decide) ?_
        refine mm_wgoto ?_
        refine mm_cvn (vb_cv (vM_S60 hM) rfl rfl rfl rfl) (by decide) (by omega) (m_wrong0 hM h12 h18) ?_
        intro I1 hI1
        refine mm_wr rfl rfl rfl ?_
        first
          | (rw [show px_cb b s = true from decide_eq_true (by have := (nt_soK2 (b := b) (s := s)).mp h36; omega)]; exact ⟨_, hI1, rfl⟩)
          | (rw [show px_cb b s = true from decide_eq_true (by have := (nt_soK1 (b := b) (s := s)).mp h44; omega)]; exact ⟨_, hI1, rfl⟩)
          | (rw [show px_cb b s = true from decide_eq_true (by have := of_decide_eq_true h53; omega)]; exact ⟨_, hI1, rfl⟩)
          | (rw [show px_cb b s = false from decide_eq_false (by
              have k1 : ¬ (tx_K b s = 2 ∨ tx_K b s = 3) := fun e => h36 ((nt_soK2 (b := b) (s := s)).mpr e)
              have k2 : ¬ tx_K b s = 1 := fun e => h44 ((nt_soK1 (b := b) (s := s)).mpr e)
              have k3 := of_decide_eq_false h53
              omega)]; exact ⟨_, hI1, rfl⟩)
      · intro h44
        refine mm_w1 rfl ?_
        refine mm_wv (vb_i 40) rfl (by decide) ?_
        refine mm_cvp (vb_cv (vM_S60 hM) rfl rfl rfl rfl) (by decide) (by omega) (m_isSign hM hb hs hk (Or.inr (Or.inl rfl))) ?_
        refine mm_bifeq ?_ ?_
        · intro h53
          refine mm_wv (vb_i 1) rfl (by decide) ?_
          refine mm_cvn (vb_cv (vM_S60 hM) rfl rfl rfl rfl) (by decide) (by omega) (m_wrong0 hM h12 h18) ?_
          intro I1 hI1
          refine mm_wr rfl rfl rfl ?_
          first
            | (rw [show px_cb b s = true from decide_eq_true (by have := (nt_soK2 (b := b) (s := s)).mp h36; omega)]; exact ⟨_, hI1, rfl⟩)
            | (rw [show px_cb b s = true from decide_eq_true (by have := (nt_soK1 (b := b) (s := s)).mp h44; omega)]; exact ⟨_, hI1, rfl⟩)
            | (rw [show px_cb b s = true from decide_eq_true (by have := of_decide_eq_true h53; omega)]; exact ⟨_, hI1, rfl⟩)
            | (rw [show px_cb b s = false from decide_eq_false (by
                have k1 : ¬ (tx_K b s = 2 ∨ tx_K b s = 3) := fun e => h36 ((nt_soK2 (b := b) (s := s)).mpr e)
                have k2 : ¬ tx_K b s = 1 := fun e => h44 ((nt_soK1 (b := b) (s := s)).mpr e)
                have k3 := of_decide_eq_false h53
                omega)]; exact ⟨_, hI1, rfl⟩)
        · intro h53
          refine mm_wv (vb_i 2) rfl (by decide) ?_
          refine mm_wgoto ?_
          refine mm_cvn (vb_cv (vM_S60 hM) rfl rfl rfl rfl) (by decide) (by omega) (m_wrong0 hM h12 h18) ?_
          intro I1 hI1
          refine mm_wr rfl rfl rfl ?_
          first
            | (rw [show px_cb b s = true from decide_eq_true (by have := (nt_soK2 (b := b) (s := s)).mp h36; omega)]; exact ⟨_, hI1, rfl⟩)
            | (rw [show px_cb b s = true from decide_eq_true (by have := (nt_soK1 (b := b) (s := s)).mp h44; omega)]; exact ⟨_, hI1, rfl⟩)
            | (rw [show px_cb b s = true from decide_eq_true (by have := of_decide_eq_true h53; omega)]; exact ⟨_, hI1, rfl⟩)
            | (rw [show px_cb b s = false from decide_eq_false (by
                have k1 : ¬ (tx_K b s = 2 ∨ tx_K b s = 3) := fun e => h36 ((nt_soK2 (b := b) (s := s)).mpr e)
                have k2 : ¬ tx_K b s = 1 := fun e => h44 ((nt_soK1 (b := b) (s := s)).mpr e)
                have k3 := of_decide_eq_false h53
                omega)]; exact ⟨_, hI1, rfl⟩)
  · intro h6
    omega
theorem m_part1 {f : Nat} (hM : vm_isM P S) (h12 : I 60 12 = vb_i f) (h1 : 1 ≤ f) (h5 : f ≤ 5) (hd : 1 ≤ d) : mm_Call G d 161 [.ref 60] (I, P, J, S, nc, ns) (.inl none, (I, P, J, S, nc, ns)) := by
  refine mm_C.call ?_
  show mm_W _ _ 161 (mm_blk 161 0) [.ref 60, .null] [] _ _
  refine mm_w1 rfl ?_
  refine mm_cvp (vb_cv (vM_S60 hM) rfl rfl rfl rfl) (by decide) (by omega) (m_good1 hM h12 h1 h5) ?_
  refine mm_nifne (by decide) (fun h => absurd h (by decide)) (fun _ => ?_)
  refine mm_wr rfl rfl rfl ?_
  rfl
def pt (b : Nat → Int32) (s : Nat) : (Nat × Nat) ⊕ (Nat × Int32) := if tx_K b s = 2 then .inr (1, vb_i (tx_V b s (tx_E b s - s))) else if tx_K b s = 3 then .inl (2, s) else if tx_K b s = 1 then (if tx_w b s < 8 then .inr (2, vb_i (tx_w b s)) else .inl (3, s)) else .inl (1, s)
def nx_P (b : Nat → Int32) (n a0 D : Nat) (W : List Nat) (t : Nat → Bool) (C : List (Nat × Int32)) (s : Nat) (I : Nat → Nat → Int32) (J : Nat → Nat → Int64) : Prop := match pt b s with
  | .inl x => nx_X n a0 x I
  | .inr it => nx_S b n a0 D W t (C ++ [it]) (tx_N b s) I J
theorem nx_rc2 (C : List (Nat × Int32)) {q : Nat} (v : Int32) (hq : q = 1 ∨ q = 2) : (px_rc (C ++ [(q, v)])).length = (px_rc C).length + 2 := by
  rw [px_rc_app, List.length_append]
  show _ + (px_ri (q, v) ++ []).length = _
  rw [px_ri, if_pos hq]; rfl
theorem m_part (hM : vm_isM P S) (hb : tx_ok b n) (hS : nx_S b n a0 D W t C s I J) (hd : 4 ≤ d) : mm_C G d 161 [.ref 60] (I, P, J, S, nc, ns) (nt_R none (fun I' J' => nx_P b n a0 D W t C s I' J' ∧ nx_f a0 I I') P S nc ns) := by
  obtain ⟨dD, hk, dE, h12, hv1, hv2, hv3, hv4, hv5, hv6⟩ := hS
  have hn7 := hb.1
  have h17 := hk.2.2.2.1
  have h18 := hk.2.1
  have h19 := hk.2.2.1
  have h27 := dE.1
  have hso := nt_so4 (b := b) (s := s)
  have hx : nx_f a0 I I := .rf
  have hEn := tx_E_n hb hv1
  have hlt : tx_K b s ≠ 0 → s < tx_N b s := fun h => tx_N_lt hb (tx_lt hb hv1 h)
  have hlt0 : tx_K b s ≠ 0 → s < n := fun h => tx_lt hb hv1 h
  have hNn := tx_N_n hb hv1
  simp only [nx_P, pt]
  by_cases hK2 : tx_K b s = 2
  · rw [if_pos hK2]
    have hlt := hlt (by omega)
    have h20 := nt_val hk hK2
    have e17 : nt_so (tx_kd (b s)) = 2 := nt_soK2.mpr (Or.inl hK2)
    rw [e17] at h17
    have e19 := tx_num hK2
    show mm_C G d 161 [.ref 60] (I, P, J, S, nc, ns) (nt_R none (fun I' J' => nx_S b n a0 D W t (C ++ [(1, vb_i (tx_V b s (tx_E b s - s)))]) (tx_N b s) I' J' ∧ nx_f a0 I I') P S nc ns)
    show mm_W _ _ 161 (mm_blk 161 0) [.ref 60, .null] [] _ _
    refine mm_w1 rfl ?_
    refine mm_cvp (vb_cv (vM_S60 hM) rfl rfl rfl rfl) (by decide) (by omega) (m_good0 hM h12) ?_
    refine mm_nifne (by decide) (fun _ => ?_) (fun h => absurd h (by decide))
    refine mm_w1 rfl ?_
    refine mm_wgiv _ (vM_S60 hM) (by decide) (by decide) h17 ?_
    refine mm_wv (vb_i 2) rfl (by decide) ?_
    refine mm_nicne (by decide) (by decide) (fun h => absurd h (by decide)) (fun _ => ?_)
    refine mm_w1 rfl ?_
    refine mm_wgiv _ (vM_S60 hM) (by decide) (by decide) h19 ?_
    refine mm_wv (vb_i 4) rfl (by decide) ?_
    refine mm_nicle (by omega) (by omega) ?_ ?_
    · intro h21
      refine mm_w1 rfl ?_
      refine mm_wv (vb_i 1) rfl (by decide) ?_
      refine mm_cvn (vb_cv (vM_S60 hM) rfl rfl rfl rfl) (by decide) (by omega) (m_puts hM h27 (by omega)) ?_
      intro I1 hI1
      have h271 : I1 60 27 = vb_i (a0 + (px_rc C).length + 1) := by rw [hI1, vb_up1]
      have h201 : I1 60 20 = I 60 20 := by rw [hI1, vb_up2 _ _ (by decide), vb_up3 _ _ (by decide)]
      refine mm_w1 rfl ?_
      refine mm_w1 rfl ?_
      refine mm_wgiv _ (vM_S60 hM) (by decide) (by decide) (h201.trans h20) ?_
      refine mm_cvn (vb_cv (vM_S60 hM) rfl rfl rfl rfl) (by decide) (by omega) (m_puts hM h271 (by omega)) ?_
      intro I2 hI2
      refine mm_wgoto ?_
      have dE2 : nx_E a0 D W t (C ++ [(1, vb_i (tx_V b s (tx_E b s - s)))]) I2 := by rw [hI2, hI1]; exact dE.put2 (Or.inl rfl)
      have hg2 : nx_g a0 I I2 := by rw [hI2, hI1]; exact (((nx_g.rf.u72 (Nat.le_add_right _ _)).u60 (by decide) (by decide)).u72 (by omega)).u60 (by decide) (by decide)
      have dD2 := dD.g hg2
      have hk2 := hk.g hg2
      have h122 : I2 60 12 = vb_i 0 := (hg2.2.1 12 (by decide)).trans h12
      refine mm_w1 rfl ?_ 
      refine mm_cvp (vb_cv (vM_S60 hM) rfl rfl rfl rfl) (by decide) (by omega) (m_good0 hM h122) ?_
      refine mm_nifeq (by decide) (fun h => absurd h (by decide)) (fun _ => ?_)
      refine mm_w1 rfl ?_
      refine mm_cvnJ (vb_cv (vM_S60 hM) rfl rfl rfl rfl) (by decide) (by omega) (m_goes hM dD2 hb (tx_E_n hb hv1) hk2.1 (by omega)) ?_
      intro I3 J3 hq3
      obtain ⟨hkN3, hfN3⟩ := hq3
      refine mm_wr rfl rfl rfl ?_
      refine ⟨_, _, ⟨⟨dD2.f hfN3, hkN3, dE2.f hfN3, (hfN3.2 12 (by decide)).trans h122, hNn, hv2, hv3, hv4, ?_, by omega⟩, hg2.f.tr (.of hfN3)⟩, rfl⟩
      rw [nx_rc2 _ _ (Or.inl rfl)]; omega
    · intro h21
      omega
  · rw [if_neg hK2]
    by_cases hK3 : tx_K b s = 3
    · rw [if_pos hK3]
      have hlt0 := hlt0 (by omega)
      have e17 : nt_so (tx_kd (b s)) = 2 := nt_soK2.mpr (Or.inr hK3)
      rw [e17] at h17
      have e19 := (nt_kd3 hK3).2
      show mm_C G d 161 [.ref 60] (I, P, J, S, nc, ns) (nt_R none (fun I' J' => nx_X n a0 (2, s) I' ∧ nx_f a0 I I') P S nc ns)
      show mm_W _ _ 161 (mm_blk 161 0) [.ref 60, .null] [] _ _
      refine mm_w1 rfl ?_
      refine mm_cvp (vb_cv (vM_S60 hM) rfl rfl rfl rfl) (by decide) (by omega) (m_good0 hM h12) ?_
      refine mm_nifne (by decide) (fun _ => ?_) (fun h => absurd h (by decide))
      refine mm_w1 rfl ?_
      refine mm_wgiv _ (vM_S60 hM) (by decide) (by decide) h17 ?_
      refine mm_wv (vb_i 2) rfl (by decide) ?_
      refine mm_nicne (by decide) (by decide) (fun h => absurd h (by decide)) (fun _ => ?_)
      refine mm_w1 rfl ?_
      refine mm_wgiv _ (vM_S60 hM) (by decide) (by decide) h19 ?_
      refine mm_wv (vb_i 4) rfl (by decide) ?_
      refine mm_nicle (by omega) (by omega) ?_ ?_
      · intro h21
        omega
      · intro h21
        refine mm_w1 rfl ?_
        refine mm_wv (vb_i 2) rfl (by decide) ?_
        refine mm_cvn (vb_cv (vM_S60 hM) rfl rfl rfl rfl) (by decide) (by omega) (m_wrong0 hM h12 h18) ?_
        intro I1 hI1
        have dE1 := dE.wrong hI1
        have h271 := dE1.1
        refine mm_w1 rfl ?_
        refine mm_wv (vb_i 1) rfl (by decide) ?_
        refine mm_cvn (vb_cv (vM_S60 hM) rfl rfl rfl rfl) (by decide) (by omega) (m_puts hM h271 (by omega)) ?_
        intro I2 hI2
        have h272 : I2 60 27 = vb_i (a0 + (px_rc C).length + 1) := by rw [hI2, vb_up1]
        refine mm_w1 rfl ?_
        refine mm_w1 rfl ?_
        refine mm_wgiv (I 60 20) (vM_S60 hM) (by decide) (by decide) (by rw [hI2, vb_up2 _ _ (by decide), vb_up3 _ _ (by decide), hI1, vb_up2 _ _ (by decide), vb_up2 _ _ (by decide)]) ?_
        refine mm_cvn (vb_cv (vM_S60 hM) rfl rfl rfl rfl) (by decide) (by omega) (m_puts hM h272 (by omega)) ?_
        intro I3 hI3
        refine mm_wgoto ?_
        have dE3 : nx_E a0 D W t (C ++ [(1, I 60 20)]) I3 := by rw [hI3, hI2]; exact dE1.put2 (Or.inl rfl)
        have hg3 : nx_g a0 I1 I3 := by rw [hI3, hI2]; exact (((nx_g.rf.u72 (Nat.le_add_right _ _)).u60 (by decide) (by decide)).u72 (by omega)).u60 (by decide) (by decide)
        have h123 : I3 60 12 = vb_i 2 := by rw [hg3.2.1 12 (by decide), hI1, vb_up2 _ _ (by decide), vb_up1]
        have h133 : I3 60 13 = vb_i s := by rw [hg3.2.1 13 (by decide), hI1, vb_up1]
        refine mm_w1 rfl ?_ 
        refine mm_cvp (vb_cv (vM_S60 hM) rfl rfl rfl rfl) (by decide) (by omega) (m_good1 (f := 2) hM h123 (by decide) (by decide)) ?_
        refine mm_nifeq (by decide) (fun _ => ?_) (fun h => absurd h (by decide))
        refine mm_wr rfl rfl rfl ?_
        refine ⟨_, _, ⟨⟨h123, h133, of_decide_eq_true rfl, of_decide_eq_true rfl, D, W, t, C ++ [(1, I 60 20)], dE3, hv4, ?_, by omega⟩, (nx_f.wr hI1).tr hg3.f⟩, rfl⟩
        rw [nx_rc2 _ _ (Or.inl rfl)]; omega
    · rw [if_neg hK3]
      by_cases hK1 : tx_K b s = 1
      · rw [if_pos hK1]
        have hlt := hlt (by omega)
        have hlt0 := hlt0 (by omega)
        have e17 : nt_so (tx_kd (b s)) = 1 := nt_soK1.mpr hK1
        rw [e17] at h17
        by_cases h8 : tx_w b s < 8
        · rw [if_pos h8]
          show mm_C G d 161 [.ref 60] (I, P, J, S, nc, ns) (nt_R none (fun I' J' => nx_S b n a0 D W t (C ++ [(2, vb_i (tx_w b s))]) (tx_N b s) I' J' ∧ nx_f a0 I I') P S nc ns)
          show mm_W _ _ 161 (mm_blk 161 0) [.ref 60, .null] [] _ _
          refine mm_w1 rfl ?_
          refine mm_cvp (vb_cv (vM_S60 hM) rfl rfl rfl rfl) (by decide) (by omega) (m_good0 hM h12) ?_
          refine mm_nifne (by decide) (fun _ => ?_) (fun h => absurd h (by decide))
          refine mm_w1 rfl ?_
          refine mm_wgiv _ (vM_S60 hM) (by decide) (by decide) h17 ?_
          refine mm_wv (vb_i 2) rfl (by decide) ?_
          refine mm_nicne (by decide) (by decide) (fun _ => ?_) (fun h => absurd h (by decide))
          refine mm_w1 rfl ?_
          refine mm_wgiv _ (vM_S60 hM) (by decide) (by decide) h17 ?_
          refine mm_wv (vb_i 1) rfl (by decide) ?_
          refine mm_nicne (by decide) (by decide) (fun h => absurd h (by decide)) (fun _ => ?_)
          refine mm_w1 rfl ?_
          refine mm_cvp (vb_cv (vM_S60 hM) rfl rfl rfl rfl) (by decide) (by omega) (m_kw hM hv1 hn7 hb hk (by omega) rfl (by omega)) ?_
          refine mm_w1 (ls' := [_, _]) rfl ?_
          refine mm_w1 rfl ?_
          refine mm_niflt (by omega) ?_
          refine mm_w1 rfl ?_
          refine mm_wv (vb_i 7) rfl (by decide) ?_
          refine mm_nicle (by omega) (by omega) ?_ ?_
          · intro h65
            refine mm_w1 rfl ?_
            refine mm_wv (vb_i 2) rfl (by decide) ?_
            refine mm_cvn (vb_cv (vM_S60 hM) rfl rfl rfl rfl) (by decide) (by omega) (m_puts hM h27 (by omega)) ?_
            intro I1 hI1
            have h271 : I1 60 27 = vb_i (a0 + (px_rc C).length + 1) := by rw [hI1, vb_up1]
            have h201 : I1 60 20 = I 60 20 := by rw [hI1, vb_up2 _ _ (by decide), vb_up3 _ _ (by decide)]
            refine mm_w1 rfl ?_
            refine mm_w1 rfl ?_
            refine mm_cvn (vb_cv (vM_S60 hM) rfl rfl rfl rfl) (by decide) (by omega) (m_puts hM h271 (by omega)) ?_
            intro I2 hI2
            refine mm_wgoto ?_
            have dE2 : nx_E a0 D W t (C ++ [(2, vb_i (tx_w b s))]) I2 := by rw [hI2, hI1]; exact dE.put2 (Or.inr rfl)
            have hg2 : nx_g a0 I I2 := by rw [hI2, hI1]; exact (((nx_g.rf.u72 (Nat.le_add_right _ _)).u60 (by decide) (by decide)).u72 (by omega)).u60 (by decide) (by decide)
            have dD2 := dD.g hg2
            have hk2 := hk.g hg2
            have h122 : I2 60 12 = vb_i 0 := (hg2.2.1 12 (by decide)).trans h12
            refine mm_w1 rfl ?_ 
            refine mm_cvp (vb_cv (vM_S60 hM) rfl rfl rfl rfl) (by decide) (by omega) (m_good0 hM h122) ?_
            refine mm_nifeq (by decide) (fun h => absurd h (by decide)) (fun _ => ?_)
            refine mm_w1 rfl ?_
            refine mm_cvnJ (vb_cv (vM_S60 hM) rfl rfl rfl rfl) (by decide) (by omega) (m_goes hM dD2 hb (tx_E_n hb hv1) hk2.1 (by omega)) ?_
            intro I3 J3 hq3
            obtain ⟨hkN3, hfN3⟩ := hq3
            refine mm_wr rfl rfl rfl ?_
            refine ⟨_, _, ⟨⟨dD2.f hfN3, hkN3, dE2.f hfN3, (hfN3.2 12 (by decide)).trans h122, hNn, hv2, hv3, hv4, ?_, by omega⟩, hg2.f.tr (.of hfN3)⟩, rfl⟩
            rw [nx_rc2 _ _ (Or.inr rfl)]; omega
          · intro h65
            omega
        · rw [if_neg h8]
          show mm_C G d 161 [.ref 60] (I, P, J, S, nc, ns) (nt_R none (fun I' J' => nx_X n a0 (3, s) I' ∧ nx_f a0 I I') P S nc ns)
          by_cases h16 : tx_w b s < 16
          · show mm_W _ _ 161 (mm_blk 161 0) [.ref 60, .null] [] _ _
            refine mm_w1 rfl ?_
            refine mm_cvp (vb_cv (vM_S60 hM) rfl rfl rfl rfl) (by decide) (by omega) (m_good0 hM h12) ?_
            refine mm_nifne (by decide) (fun _ => ?_) (fun h => absurd h (by decide))
            refine mm_w1 rfl ?_
            refine mm_wgiv _ (vM_S60 hM) (by decide) (by decide) h17 ?_
            refine mm_wv (vb_i 2) rfl (by decide) ?_
            refine mm_nicne (by decide) (by decide) (fun _ => ?_) (fun h => absurd h (by decide))
            refine mm_w1 rfl ?_
            refine mm_wgiv _ (vM_S60 hM) (by decide) (by decide) h17 ?_
            refine mm_wv (vb_i 1) rfl (by decide) ?_
            refine mm_nicne (by decide) (by decide) (fun h => absurd h (by decide)) (fun _ => ?_)
            refine mm_w1 rfl ?_
            refine mm_cvp (vb_cv (vM_S60 hM) rfl rfl rfl rfl) (by decide) (by omega) (m_kw hM hv1 hn7 hb hk (by omega) rfl h16) ?_
            refine mm_w1 (ls' := [_, _]) rfl ?_
            refine mm_w1 rfl ?_
            refine mm_niflt (by omega) ?_
            refine mm_w1 rfl ?_
            refine mm_wv (vb_i 7) rfl (by decide) ?_
            refine mm_nicle (by omega) (by omega) ?_ ?_
            · intro h65
              omega
            · intro h65
              refine mm_w1 rfl ?_
              refine mm_wv (vb_i 3) rfl (by decide) ?_
              refine mm_cvn (vb_cv (vM_S60 hM) rfl rfl rfl rfl) (by decide) (by omega) (m_wrong0 hM h12 h18) ?_
              intro I1 hI1
              have dE1 := dE.wrong hI1
              have h271 := dE1.1
              refine mm_w1 rfl ?_
              refine mm_wv (vb_i 2) rfl (by decide) ?_
              refine mm_cvn (vb_cv (vM_S60 hM) rfl rfl rfl rfl) (by decide) (by omega) (m_puts hM h271 (by omega)) ?_
              intro I2 hI2
              have h272 : I2 60 27 = vb_i (a0 + (px_rc C).length + 1) := by rw [hI2, vb_up1]
              refine mm_w1 rfl ?_
              refine mm_w1 rfl ?_
              refine mm_cvn (vb_cv (vM_S60 hM) rfl rfl rfl rfl) (by decide) (by omega) (m_puts hM h272 (by omega)) ?_
              intro I3 hI3
              refine mm_wgoto ?_
              have dE3 : nx_E a0 D W t (C ++ [(2, vb_i (tx_w b s))]) I3 := by rw [hI3, hI2]; exact dE1.put2 (Or.inr rfl)
              have hg3 : nx_g a0 I1 I3 := by rw [hI3, hI2]; exact (((nx_g.rf.u72 (Nat.le_add_right _ _)).u60 (by decide) (by decide)).u72 (by omega)).u60 (by decide) (by decide)
              have h123 : I3 60 12 = vb_i 3 := by rw [hg3.2.1 12 (by decide), hI1, vb_up2 _ _ (by decide), vb_up1]
              have h133 : I3 60 13 = vb_i s := by rw [hg3.2.1 13 (by decide), hI1, vb_up1]
              refine mm_w1 rfl ?_ 
              refine mm_cvp (vb_cv (vM_S60 hM) rfl rfl rfl rfl) (by decide) (by omega) (m_good1 (f := 3) hM h123 (by decide) (by decide)) ?_
              refine mm_nifeq (by decide) (fun _ => ?_) (fun h => absurd h (by decide))
              refine mm_wr rfl rfl rfl ?_
              refine ⟨_, _, ⟨⟨h123, h133, of_decide_eq_true rfl, of_decide_eq_true rfl, D, W, t, C ++ [(2, vb_i (tx_w b s))], dE3, hv4, ?_, by omega⟩, (nx_f.wr hI1).tr hg3.f⟩, rfl⟩
              rw [nx_rc2 _ _ (Or.inr rfl)]; omega
          · show mm_W _ _ 161 (mm_blk 161 0) [.ref 60, .null] [] _ _
            refine mm_w1 rfl ?_
            refine mm_cvp (vb_cv (vM_S60 hM) rfl rfl rfl rfl) (by decide) (by omega) (m_good0 hM h12) ?_
            refine mm_nifne (by decide) (fun _ => ?_) (fun h => absurd h (by decide))
            refine mm_w1 rfl ?_
            refine mm_wgiv _ (vM_S60 hM) (by decide) (by decide) h17 ?_
            refine mm_wv (vb_i 2) rfl (by decide) ?_
            refine mm_nicne (by decide) (by decide) (fun _ => ?_) (fun h => absurd h (by decide))
            refine mm_w1 rfl ?_
            refine mm_wgiv _ (vM_S60 hM) (by decide) (by decide) h17 ?_
            refine mm_wv (vb_i 1) rfl (by decide) ?_
            refine mm_nicne (by decide) (by decide) (fun h => absurd h (by decide)) (fun _ => ?_)
            refine mm_w1 rfl ?_
            refine mm_cvp (vb_cv (vM_S60 hM) rfl rfl rfl rfl) (by decide) (by omega) (m_kw0 hM hv1 hn7 hb hk (by omega) h16) ?_
            refine mm_w1 (ls' := [_, _]) rfl ?_
            refine mm_w1 rfl ?_
            refine mm_wiflt (fun _ => ?_) (fun h => absurd h (by decide))
            refine mm_w1 rfl ?_
            refine mm_wv (vb_i 3) rfl (by decide) ?_
            refine mm_cvn (vb_cv (vM_S60 hM) rfl rfl rfl rfl) (by decide) (by omega) (m_wrong0 hM h12 h18) ?_
            intro I1 hI1
            have dE1 := dE.wrong hI1
            have h271 := dE1.1
            refine mm_w1 rfl ?_
            refine mm_wv (vb_i 2) rfl (by decide) ?_
            refine mm_cvn (vb_cv (vM_S60 hM) rfl rfl rfl rfl) (by decide) (by omega) (m_puts hM h271 (by omega)) ?_
            intro I2 hI2
            have h272 : I2 60 27 = vb_i (a0 + (px_rc C).length + 1) := by rw [hI2, vb_up1]
            refine mm_w1 rfl ?_
            refine mm_w1 rfl ?_
            refine mm_cvn (vb_cv (vM_S60 hM) rfl rfl rfl rfl) (by decide) (by omega) (m_puts hM h272 (by omega)) ?_
            intro I3 hI3
            refine mm_wgoto ?_
            have dE3 : nx_E a0 D W t (C ++ [(2, -1)]) I3 := by rw [hI3, hI2]; exact dE1.put2 (Or.inr rfl)
            have hg3 : nx_g a0 I1 I3 := by rw [hI3, hI2]; exact (((nx_g.rf.u72 (Nat.le_add_right _ _)).u60 (by decide) (by decide)).u72 (by omega)).u60 (by decide) (by decide)
            have h123 : I3 60 12 = vb_i 3 := by rw [hg3.2.1 12 (by decide), hI1, vb_up2 _ _ (by decide), vb_up1]
            have h133 : I3 60 13 = vb_i s := by rw [hg3.2.1 13 (by decide), hI1, vb_up1]
            refine mm_w1 rfl ?_ 
            refine mm_cvp (vb_cv (vM_S60 hM) rfl rfl rfl rfl) (by decide) (by omega) (m_good1 (f := 3) hM h123 (by decide) (by decide)) ?_
            refine mm_nifeq (by decide) (fun _ => ?_) (fun h => absurd h (by decide))
            refine mm_wr rfl rfl rfl ?_
            refine ⟨_, _, ⟨⟨h123, h133, of_decide_eq_true rfl, of_decide_eq_true rfl, D, W, t, C ++ [(2, -1)], dE3, hv4, ?_, by omega⟩, (nx_f.wr hI1).tr hg3.f⟩, rfl⟩
            rw [nx_rc2 _ _ (Or.inr rfl)]; omega
      · rw [if_neg hK1]
        have e2 : ¬ nt_so (tx_kd (b s)) = 2 := fun e => by have := nt_soK2.mp e; omega
        have e1 : ¬ nt_so (tx_kd (b s)) = 1 := fun e => by have := nt_soK1.mp e; omega
        show mm_C G d 161 [.ref 60] (I, P, J, S, nc, ns) (nt_R none (fun I' J' => nx_X n a0 (1, s) I' ∧ nx_f a0 I I') P S nc ns)
        show mm_W _ _ 161 (mm_blk 161 0) [.ref 60, .null] [] _ _
        refine mm_w1 rfl ?_
        refine mm_cvp (vb_cv (vM_S60 hM) rfl rfl rfl rfl) (by decide) (by omega) (m_good0 hM h12) ?_
        refine mm_nifne (by decide) (fun _ => ?_) (fun h => absurd h (by decide))
        refine mm_w1 rfl ?_
        refine mm_wgiv _ (vM_S60 hM) (by decide) (by decide) h17 ?_
        refine mm_wv (vb_i 2) rfl (by decide) ?_
        refine mm_nicne (by omega) (by omega) ?_ ?_
        · intro h13
          refine mm_w1 rfl ?_
          refine mm_wgiv _ (vM_S60 hM) (by decide) (by decide) h17 ?_
          refine mm_wv (vb_i 1) rfl (by decide) ?_
          refine mm_nicne (by omega) (by omega) ?_ ?_
          · intro h50
            refine mm_w1 rfl ?_
            refine mm_wv (vb_i 1) rfl (by decide) ?_
            refine mm_cvn (vb_cv (vM_S60 hM) rfl rfl rfl rfl) (by decide) (by omega) (m_wrong0 hM h12 h18) ?_
            intro I1 hI1
            have h121 : I1 60 12 = vb_i 1 := by rw [hI1, vb_up2 _ _ (by decide), vb_up1]
            have h131 : I1 60 13 = vb_i s := by rw [hI1, vb_up1]
            refine mm_w1 rfl ?_
            refine mm_cvp (vb_cv (vM_S60 hM) rfl rfl rfl rfl) (by decide) (by omega) (m_good1 (f := 1) hM h121 (by decide) (by decide)) ?_
            refine mm_nifeq (by decide) (fun _ => ?_) (fun h => absurd h (by decide))
            refine mm_wr rfl rfl rfl ?_
            exact ⟨_, _, ⟨⟨h121, h131, of_decide_eq_true rfl, of_decide_eq_true rfl, D, W, t, C, dE.wrong hI1, hv4, by omega, by omega⟩, .wr hI1⟩, rfl⟩
          · intro h50
            exact absurd h50 e1
        · intro h13
          exact absurd h13 e2
end NXO
