/-! THE REFERENCE'S TOKENS -/
def nt_R (v : Option Value) (Φ : (Nat → Nat → Int32) → (Nat → Nat → Int64) → Prop) (P : Nat → Nat → Nat) (S : List (Nat × Nat)) (nc ns : Nat) : mm_R → Prop := fun r => ∃ I' J', Φ I' J' ∧ r = (.inl v, (I', P, J', S, nc, ns))
def nt_D (b : Nat → Int32) (n : Nat) (I : Nat → Nat → Int32) : Prop := (∀ i, i < n → I 66 i = b i) ∧ I 60 15 = vb_i n ∧ n ≤ 700
theorem nt_D.up {b : Nat → Int32} {n q : Nat} {I : Nat → Nat → Int32} {v : Int32} (h : nt_D b n I) (hq : q ≠ 15) : nt_D b n (mm_up I 60 q v) := ⟨fun i hi => by rw [vb_up3 _ _ (by decide)]; exact h.1 i hi, by rw [vb_up2 _ _ (by omega)]; exact h.2.1, h.2.2⟩
/-- only the token changes -/
def nt_f (I I' : Nat → Nat → Int32) : Prop := (∀ a, a ≠ 60 → I' a = I a) ∧ ∀ q, q < 16 ∨ 21 < q → I' 60 q = I 60 q
theorem nt_f.rf {I : Nat → Nat → Int32} : nt_f I I := ⟨fun _ _ => rfl, fun _ _ => rfl⟩
theorem nt_f.tr {I I' I'' : Nat → Nat → Int32} (h : nt_f I I') (h' : nt_f I' I'') : nt_f I I'' := ⟨fun a ha => (h'.1 a ha).trans (h.1 a ha), fun q hq => (h'.2 q hq).trans (h.2 q hq)⟩
theorem nt_f.up {I I' : Nat → Nat → Int32} {q : Nat} {v : Int32} (h : nt_f I I') (hq : 16 ≤ q) (hq2 : q ≤ 21) : nt_f I (mm_up I' 60 q v) := ⟨fun a ha => by rw [vb_up3 _ _ ha]; exact h.1 a ha, fun j hj => by rw [vb_up2 _ _ (by omega)]; exact h.2 j hj⟩
theorem nt_D.f {b : Nat → Int32} {n : Nat} {I I' : Nat → Nat → Int32} (h : nt_D b n I) (hf : nt_f I I') : nt_D b n I' := ⟨fun i hi => by rw [hf.1 66 (by decide)]; exact h.1 i hi, by rw [hf.2 15 (by decide)]; exact h.2.1, h.2.2⟩
def nt_y (b : Nat → Int32) (n k : Nat) : Int32 := if k < n then b k else 0
theorem nt_y_kd {b : Nat → Int32} {n k K : Nat} (hb : tx_ok b n) (hK : K = 1 ∨ K = 2) : (tx_kd (nt_y b n k) = K) ↔ tx_kd (b k) = K := by
  rw [nt_y]
  split
  · exact Iff.rfl
  · rw [hb.2.1 k (by omega)]
    have e1 : tx_kd 0 = 4 := by decide
    have e2 : tx_kd (-1) = 0 := by decide
    rw [e1, e2]; omega
def nt_so (K : Nat) : Nat := if K = 0 then 0 else if K = 1 then 1 else if K = 2 then 2 else if K = 4 then 4 else 3
def nt_tk (b : Nat → Int32) (n s : Nat) (I : Nat → Nat → Int32) (J : Nat → Nat → Int64) : Prop := I 60 16 = vb_i (tx_E b s) ∧ I 60 18 = vb_i s ∧ I 60 19 = vb_i (tx_E b s - s) ∧ I 60 17 = vb_i (nt_so (tx_kd (b s))) ∧ (tx_kd (b s) = 2 → I 60 20 = tx_vl b s (min (tx_E b s - s) 4)) ∧ I 60 21 = nt_y b n s ∧ (tx_kd (b s) = 1 → J 60 22 = nt_wl (nt_tw b s (min (tx_E b s - s) 7)))
theorem tx_kd2 {c : Int32} : tx_kd c = 2 ↔ (48 ≤ c ∧ c ≤ 57) := by
  simp only [tx_kd]
  constructor
  · intro h
    split at h
    · cases h
    · split at h
      · assumption
      · exfalso
        split at h
        · cases h
        · split at h
          · rename_i h9
            rcases h9 with h9 | h9 | h9 | h9 | h9 | h9 | h9 | h9 | h9 <;> rw [h9] at h <;> exact absurd h (by decide)
          · cases h
  · intro h
    have h1 : ¬ (97 ≤ c ∧ c ≤ 122) := fun h1 => by
      have a := Int32.le_iff_toInt_le.mp h1.1
      have b := Int32.le_iff_toInt_le.mp h.2
      have e4 : Int32.toInt 97 = 97 := by decide
      have e5 : Int32.toInt 57 = 57 := by decide
      omega
    rw [if_neg h1, if_pos h]
theorem nt_lt {c w : Int32} : c < w ↔ ¬ w ≤ c := by rw [Int32.lt_iff_toInt_lt, Int32.le_iff_toInt_le]; omega
section NTK
variable {G : mm_G} {d : Nat} {I : Nat → Nat → Int32} {P : Nat → Nat → Nat} {J : Nat → Nat → Int64} {S : List (Nat × Nat)} {nc ns : Nat} {μ : mm_M} {b : Nat → Int32} {n : Nat}
variable {k : Nat} {is : List mm_I} {ls st : List Value} {Q : mm_R → Prop}
theorem mm_cvnJ {idx kk nA w : Nat} {c : Int32} {args rest : List Value} {Φ : (Nat → Nat → Int32) → (Nat → Nat → Int64) → Prop} (h5 : mm_call (.invokevirtual idx, kk, nA, w, c) st (I, P, J, S, nc, ns) = some (kk, args, rest)) (h9 : kk < 9000) (hd : 0 < d) (hc : mm_C G (d - 1) kk args (I, P, J, S, nc, ns) (nt_R none Φ P S nc ns)) (k2 : ∀ I' J', Φ I' J' → mm_W G d k is ls rest (I', P, J', S, nc, ns) Q) : mm_W G d k ((.invokevirtual idx, kk, nA, w, c) :: is) ls st (I, P, J, S, nc, ns) Q :=
  mm_wcv h5 h9 hd hc (fun r ⟨I', J', h, e⟩ => ⟨none, _, e, rfl, k2 I' J' h⟩)
theorem mm_cviJ {idx kk nA w : Nat} {c : Int32} {args rest : List Value} {y : Value} {Φ : (Nat → Nat → Int32) → (Nat → Nat → Int64) → Prop} (h5 : mm_call (.invokevirtual idx, kk, nA, w, c) st (I, P, J, S, nc, ns) = some (kk, args, rest)) (h9 : kk < 9000) (hd : 0 < d) (hc : mm_C G (d - 1) kk args (I, P, J, S, nc, ns) (nt_R (some y) Φ P S nc ns)) (k2 : ∀ I' J', Φ I' J' → mm_W G d k is ls (y :: rest) (I', P, J', S, nc, ns) Q) : mm_W G d k ((.invokevirtual idx, kk, nA, w, c) :: is) ls st (I, P, J, S, nc, ns) Q :=
  mm_wcv h5 h9 hd hc (fun r ⟨I', J', h, e⟩ => ⟨some y, _, e, rfl, k2 I' J' h⟩)
theorem m_byteAt {k : Nat} (hM : vm_isM P S) (dD : nt_D b n I) (hk : k < 2 ^ 30) : mm_Call G d 143 [.ref 60, .int (vb_i k)] (I, P, J, S, nc, ns) (.inl (some (.int (nt_y b n k))), (I, P, J, S, nc, ns)) := by
  refine mm_C.call ?_
  have hn := dD.2.2
  show mm_W _ _ 143 (mm_blk 143 0) [.ref 60, .int (vb_i k)] [] _ _
  refine mm_w1 rfl ?_
  refine mm_w1 rfl ?_
  refine mm_wgiv _ (vM_S60 hM) (by decide) (by decide) dD.2.1 ?_
  refine mm_nicge (by omega) (by omega) ?_ ?_
  · intro h5
    refine mm_wv (vb_i 0) rfl (by decide) ?_
    refine mm_wr rfl rfl rfl ?_
    first | (rw [nt_y, if_pos (by omega)]) | (rw [nt_y, if_neg (by omega)]; rfl)
  · intro h5
    refine mm_w1 rfl ?_
    refine mm_wgr (vM_S60 hM) (by decide) (by decide) (vM_P60_10 hM) (vM_a66 hM) ?_
    refine mm_w1 rfl ?_
    refine mm_wiav (b k) (vM_a66 hM) (vM_S66 hM) (by decide) (by omega) (dD.1 k (by omega)) ?_
    refine mm_wgoto ?_
    refine mm_wr rfl rfl rfl ?_
    first | (rw [nt_y, if_pos (by omega)]) | (rw [nt_y, if_neg (by omega)]; rfl)
theorem m_isL (c : Int32) : mm_Call G d 144 [.int c] μ (.inl (some (.int (vb_b (decide (tx_kd c = 1))))), μ) := by
  refine mm_C.call ?_
  show mm_W _ _ 144 (mm_blk 144 0) [.int c] [] _ _
  refine mm_w1 rfl ?_
  refine mm_wv (vb_i 97) rfl (by decide) ?_
  refine mm_wiclt ?_ ?_
  · intro h3
    refine mm_wv (vb_i 0) rfl (by decide) ?_
    refine mm_wr rfl rfl rfl ?_
    first
      | (rw [decide_eq_false (fun h => absurd (tx_kd1.mp h).1 (nt_lt.mp h3))]; rfl)
      | (rw [decide_eq_false (fun h => absurd (tx_kd1.mp h).2 (nt_lt.mp h9))]; rfl)
      | (rw [decide_eq_true (tx_kd1.mpr ⟨Classical.byContradiction (fun h => h3 (nt_lt.mpr h)), Classical.byContradiction (fun h => h9 (nt_lt.mpr h))⟩)]; rfl)
  · intro h3
    refine mm_w1 rfl ?_
    refine mm_wv (vb_i 122) rfl (by decide) ?_
    refine mm_wicgt ?_ ?_
    · intro h9
      refine mm_wv (vb_i 0) rfl (by decide) ?_
      refine mm_wr rfl rfl rfl ?_
      first
        | (rw [decide_eq_false (fun h => absurd (tx_kd1.mp h).1 (nt_lt.mp h3))]; rfl)
        | (rw [decide_eq_false (fun h => absurd (tx_kd1.mp h).2 (nt_lt.mp h9))]; rfl)
        | (rw [decide_eq_true (tx_kd1.mpr ⟨Classical.byContradiction (fun h => h3 (nt_lt.mpr h)), Classical.byContradiction (fun h => h9 (nt_lt.mpr h))⟩)]; rfl)
    · intro h9
      refine mm_wv (vb_i 1) rfl (by decide) ?_
      refine mm_wgoto ?_
      refine mm_wr rfl rfl rfl ?_
      first
        | (rw [decide_eq_false (fun h => absurd (tx_kd1.mp h).1 (nt_lt.mp h3))]; rfl)
        | (rw [decide_eq_false (fun h => absurd (tx_kd1.mp h).2 (nt_lt.mp h9))]; rfl)
        | (rw [decide_eq_true (tx_kd1.mpr ⟨Classical.byContradiction (fun h => h3 (nt_lt.mpr h)), Classical.byContradiction (fun h => h9 (nt_lt.mpr h))⟩)]; rfl)
theorem m_isD (c : Int32) : mm_Call G d 145 [.int c] μ (.inl (some (.int (vb_b (decide (tx_kd c = 2))))), μ) := by
  refine mm_C.call ?_
  show mm_W _ _ 145 (mm_blk 145 0) [.int c] [] _ _
  refine mm_w1 rfl ?_
  refine mm_wv (vb_i 48) rfl (by decide) ?_
  refine mm_wiclt ?_ ?_
  · intro h3
    refine mm_wv (vb_i 0) rfl (by decide) ?_
    refine mm_wr rfl rfl rfl ?_
    first
      | (rw [decide_eq_false (fun h => absurd (tx_kd2.mp h).1 (nt_lt.mp h3))]; rfl)
      | (rw [decide_eq_false (fun h => absurd (tx_kd2.mp h).2 (nt_lt.mp h9))]; rfl)
      | (rw [decide_eq_true (tx_kd2.mpr ⟨Classical.byContradiction (fun h => h3 (nt_lt.mpr h)), Classical.byContradiction (fun h => h9 (nt_lt.mpr h))⟩)]; rfl)
  · intro h3
    refine mm_w1 rfl ?_
    refine mm_wv (vb_i 57) rfl (by decide) ?_
    refine mm_wicgt ?_ ?_
    · intro h9
      refine mm_wv (vb_i 0) rfl (by decide) ?_
      refine mm_wr rfl rfl rfl ?_
      first
        | (rw [decide_eq_false (fun h => absurd (tx_kd2.mp h).1 (nt_lt.mp h3))]; rfl)
        | (rw [decide_eq_false (fun h => absurd (tx_kd2.mp h).2 (nt_lt.mp h9))]; rfl)
        | (rw [decide_eq_true (tx_kd2.mpr ⟨Classical.byContradiction (fun h => h3 (nt_lt.mpr h)), Classical.byContradiction (fun h => h9 (nt_lt.mpr h))⟩)]; rfl)
    · intro h9
      refine mm_wv (vb_i 1) rfl (by decide) ?_
      refine mm_wgoto ?_
      refine mm_wr rfl rfl rfl ?_
      first
        | (rw [decide_eq_false (fun h => absurd (tx_kd2.mp h).1 (nt_lt.mp h3))]; rfl)
        | (rw [decide_eq_false (fun h => absurd (tx_kd2.mp h).2 (nt_lt.mp h9))]; rfl)
        | (rw [decide_eq_true (tx_kd2.mpr ⟨Classical.byContradiction (fun h => h3 (nt_lt.mpr h)), Classical.byContradiction (fun h => h9 (nt_lt.mpr h))⟩)]; rfl)
end NTK
