/-! a row an instruction, for runs with a postcondition -/
section WROWS
variable {G : mm_G} {d k : Nat} {is : List mm_I} {ls st : List Value} {μ : mm_M} {Q : mm_R → Prop} {x : mm_I}
theorem mm_w1 {ls' st' : List Value} {μ' : mm_M} (h : mm_one G x ls st μ = some (ls', st', μ')) (kk : mm_W G d k is ls' st' μ' Q) : mm_W G d k (x :: is) ls st μ Q := by
  obtain ⟨r, hr, q⟩ := kk
  exact ⟨r, mm_g1 h hr, q⟩
/-- a value that comes onto the stack, under another name -/
theorem mm_wv {ls' st' : List Value} {μ' : mm_M} {v : Int32} (w : Int32) (h : mm_one G x ls st μ = some (ls', .int v :: st', μ')) (e : v = w) (kk : mm_W G d k is ls' (.int w :: st') μ' Q) : mm_W G d k (x :: is) ls st μ Q := by
  subst e; exact mm_w1 h kk
theorem mm_wl {ls' st' : List Value} {μ' : mm_M} {v : Int64} (w : Int64) (h : mm_one G x ls st μ = some (ls', .long v :: st', μ')) (e : v = w) (kk : mm_W G d k is ls' (.long w :: st') μ' Q) : mm_W G d k (x :: is) ls st μ Q := by
  subst e; exact mm_w1 h kk
theorem mm_wj (t : Nat) {st' : List Value} (h1 : mm_one G x ls st μ = none) (h : mm_jmp x st = some (some t, st')) (kk : mm_W G d k (mm_blk k t) ls st' μ Q) : mm_W G d k (x :: is) ls st μ Q := by
  obtain ⟨r, hr, q⟩ := kk
  exact ⟨r, mm_gj t h1 h hr, q⟩
theorem mm_wn {st' : List Value} (h1 : mm_one G x ls st μ = none) (h : mm_jmp x st = some (none, st')) (kk : mm_W G d k is ls st' μ Q) : mm_W G d k (x :: is) ls st μ Q := by
  obtain ⟨r, hr, q⟩ := kk
  exact ⟨r, mm_gn h1 h hr, q⟩
theorem mm_wr {v : Option Value} (h1 : mm_one G x ls st μ = none) (h2 : mm_jmp x st = none) (h : mm_ret (mm_rk k) x st = some v) (q : Q (.inl v, μ)) : mm_W G d k (x :: is) ls st μ Q := ⟨_, mm_gr h1 h2 h, q⟩
theorem mm_wgoto {off : Int} {t b w : Nat} {c : Int32} (kk : mm_W G d k (mm_blk k t) ls st μ Q) : mm_W G d k ((.goto off, t, b, w, c) :: is) ls st μ Q := mm_wj t rfl rfl kk
theorem mm_wthr {E : Nat} (h1 : mm_one G x ls st μ = none) (h2 : mm_jmp x st = none) (h3 : mm_ret (mm_rk k) x st = none) (h4 : mm_thr x st = some E) (q : Q (.inr E, (μ.1, μ.2.1, μ.2.2.1, μ.2.2.2.1, μ.2.2.2.2.1 + 1, μ.2.2.2.2.2 + 6))) : mm_W G d k (x :: is) ls st μ Q := ⟨_, mm_thrw h1 h2 h3 h4, q⟩
section IF
variable {off : Int} {t b w : Nat} {c v y : Int32}
theorem mm_wifeq (kt : v = 0 → mm_W G d k (mm_blk k t) ls st μ Q) (kf : ¬ v = 0 → mm_W G d k is ls st μ Q) : mm_W G d k ((.ifCond .eq off, t, b, w, c) :: is) ls (.int v :: st) μ Q := by
  by_cases h : v = 0
  · exact mm_wj t rfl (by simp only [mm_jmp, if_pos h]) (kt h)
  · exact mm_wn rfl (by simp only [mm_jmp, if_neg h]) (kf h)
theorem mm_wifne (kt : ¬ v = 0 → mm_W G d k (mm_blk k t) ls st μ Q) (kf : v = 0 → mm_W G d k is ls st μ Q) : mm_W G d k ((.ifCond .ne off, t, b, w, c) :: is) ls (.int v :: st) μ Q := by
  by_cases h : v = 0
  · exact mm_wn rfl (by simp only [mm_jmp, h]; rfl) (kf h)
  · exact mm_wj t rfl (by simp only [mm_jmp, if_pos h]) (kt h)
theorem mm_wiflt (kt : v < 0 → mm_W G d k (mm_blk k t) ls st μ Q) (kf : ¬ v < 0 → mm_W G d k is ls st μ Q) : mm_W G d k ((.ifCond .lt off, t, b, w, c) :: is) ls (.int v :: st) μ Q := by
  by_cases h : v < 0
  · exact mm_wj t rfl (by simp only [mm_jmp, if_pos h]) (kt h)
  · exact mm_wn rfl (by simp only [mm_jmp, if_neg h]) (kf h)
theorem mm_wifge (kt : ¬ v < 0 → mm_W G d k (mm_blk k t) ls st μ Q) (kf : v < 0 → mm_W G d k is ls st μ Q) : mm_W G d k ((.ifCond .ge off, t, b, w, c) :: is) ls (.int v :: st) μ Q := by
  by_cases h : 0 ≤ v
  · exact mm_wj t rfl (by simp only [mm_jmp, if_pos h]) (kt (vb_nlt.mpr h))
  · exact mm_wn rfl (by simp only [mm_jmp, if_neg h]) (kf (vb_nle.mp h))
theorem mm_wifgt (kt : 0 < v → mm_W G d k (mm_blk k t) ls st μ Q) (kf : ¬ 0 < v → mm_W G d k is ls st μ Q) : mm_W G d k ((.ifCond .gt off, t, b, w, c) :: is) ls (.int v :: st) μ Q := by
  by_cases h : 0 < v
  · exact mm_wj t rfl (by simp only [mm_jmp, if_pos h]) (kt h)
  · exact mm_wn rfl (by simp only [mm_jmp, if_neg h]) (kf h)
theorem mm_wifle (kt : ¬ 0 < v → mm_W G d k (mm_blk k t) ls st μ Q) (kf : 0 < v → mm_W G d k is ls st μ Q) : mm_W G d k ((.ifCond .le off, t, b, w, c) :: is) ls (.int v :: st) μ Q := by
  by_cases h : v ≤ 0
  · exact mm_wj t rfl (by simp only [mm_jmp, if_pos h]) (kt (vb_nlt.mpr h))
  · exact mm_wn rfl (by simp only [mm_jmp, if_neg h]) (kf (vb_nle.mp h))
theorem mm_wiceq (kt : v = y → mm_W G d k (mm_blk k t) ls st μ Q) (kf : ¬ v = y → mm_W G d k is ls st μ Q) : mm_W G d k ((.if_icmp .eq off, t, b, w, c) :: is) ls (.int y :: .int v :: st) μ Q := by
  by_cases h : v = y
  · exact mm_wj t rfl (by simp only [mm_jmp, if_pos h]) (kt h)
  · exact mm_wn rfl (by simp only [mm_jmp, if_neg h]) (kf h)
theorem mm_wicne (kt : ¬ v = y → mm_W G d k (mm_blk k t) ls st μ Q) (kf : v = y → mm_W G d k is ls st μ Q) : mm_W G d k ((.if_icmp .ne off, t, b, w, c) :: is) ls (.int y :: .int v :: st) μ Q := by
  by_cases h : v = y
  · exact mm_wn rfl (by simp only [mm_jmp, if_neg (not_not_intro h)]) (kf h)
  · exact mm_wj t rfl (by simp only [mm_jmp, if_pos h]) (kt h)
theorem mm_wiclt (kt : v < y → mm_W G d k (mm_blk k t) ls st μ Q) (kf : ¬ v < y → mm_W G d k is ls st μ Q) : mm_W G d k ((.if_icmp .lt off, t, b, w, c) :: is) ls (.int y :: .int v :: st) μ Q := by
  by_cases h : v < y
  · exact mm_wj t rfl (by simp only [mm_jmp, if_pos h]) (kt h)
  · exact mm_wn rfl (by simp only [mm_jmp, if_neg h]) (kf h)
theorem mm_wicge (kt : ¬ v < y → mm_W G d k (mm_blk k t) ls st μ Q) (kf : v < y → mm_W G d k is ls st μ Q) : mm_W G d k ((.if_icmp .ge off, t, b, w, c) :: is) ls (.int y :: .int v :: st) μ Q := by
  by_cases h : y ≤ v
  · exact mm_wj t rfl (by simp only [mm_jmp, if_pos h]) (kt (vb_nlt.mpr h))
  · exact mm_wn rfl (by simp only [mm_jmp, if_neg h]) (kf (vb_nle.mp h))
theorem mm_wicgt (kt : y < v → mm_W G d k (mm_blk k t) ls st μ Q) (kf : ¬ y < v → mm_W G d k is ls st μ Q) : mm_W G d k ((.if_icmp .gt off, t, b, w, c) :: is) ls (.int y :: .int v :: st) μ Q := by
  by_cases h : y < v
  · exact mm_wj t rfl (by simp only [mm_jmp, if_pos h]) (kt h)
  · exact mm_wn rfl (by simp only [mm_jmp, if_neg h]) (kf h)
theorem mm_wicle (kt : ¬ y < v → mm_W G d k (mm_blk k t) ls st μ Q) (kf : y < v → mm_W G d k is ls st μ Q) : mm_W G d k ((.if_icmp .le off, t, b, w, c) :: is) ls (.int y :: .int v :: st) μ Q := by
  by_cases h : v ≤ y
  · exact mm_wj t rfl (by simp only [mm_jmp, if_pos h]) (kt (vb_nlt.mpr h))
  · exact mm_wn rfl (by simp only [mm_jmp, if_neg h]) (kf (vb_nle.mp h))
/-! of naturals -/
variable {i j : Nat}
theorem mm_nifeq (hi : i < 2 ^ 31) (kt : i = 0 → mm_W G d k (mm_blk k t) ls st μ Q) (kf : ¬ i = 0 → mm_W G d k is ls st μ Q) : mm_W G d k ((.ifCond .eq off, t, b, w, c) :: is) ls (.int (vb_i i) :: st) μ Q :=
  mm_wifeq (fun h => kt ((vb_inj hi (by omega)).mp (h.trans rfl))) (fun h => kf (fun e => h (by rw [e]; rfl)))
theorem mm_nifne (hi : i < 2 ^ 31) (kt : ¬ i = 0 → mm_W G d k (mm_blk k t) ls st μ Q) (kf : i = 0 → mm_W G d k is ls st μ Q) : mm_W G d k ((.ifCond .ne off, t, b, w, c) :: is) ls (.int (vb_i i) :: st) μ Q :=
  mm_wifne (fun h => kt (fun e => h (by rw [e]; rfl))) (fun h => kf ((vb_inj hi (by omega)).mp (h.trans rfl)))
theorem mm_niflt (hi : i < 2 ^ 31) (kf : mm_W G d k is ls st μ Q) : mm_W G d k ((.ifCond .lt off, t, b, w, c) :: is) ls (.int (vb_i i) :: st) μ Q :=
  mm_wiflt (fun h => absurd h (vb_ge0 hi)) (fun _ => kf)
theorem mm_nifge (hi : i < 2 ^ 31) (kf : mm_W G d k (mm_blk k t) ls st μ Q) : mm_W G d k ((.ifCond .ge off, t, b, w, c) :: is) ls (.int (vb_i i) :: st) μ Q :=
  mm_wifge (fun _ => kf) (fun h => absurd h (vb_ge0 hi))
theorem mm_nifgt (hi : i < 2 ^ 31) (kt : 0 < i → mm_W G d k (mm_blk k t) ls st μ Q) (kf : i = 0 → mm_W G d k is ls st μ Q) : mm_W G d k ((.ifCond .gt off, t, b, w, c) :: is) ls (.int (vb_i i) :: st) μ Q :=
  mm_wifgt (fun h => kt ((vb_lt (a := 0) (by omega) hi).mp h)) (fun h => kf (by have := mt (vb_lt (a := 0) (by omega) hi).mpr h; omega))
theorem mm_nifle (hi : i < 2 ^ 31) (kt : i = 0 → mm_W G d k (mm_blk k t) ls st μ Q) (kf : 0 < i → mm_W G d k is ls st μ Q) : mm_W G d k ((.ifCond .le off, t, b, w, c) :: is) ls (.int (vb_i i) :: st) μ Q :=
  mm_wifle (fun h => kt (by have := mt (vb_lt (a := 0) (by omega) hi).mpr h; omega)) (fun h => kf ((vb_lt (a := 0) (by omega) hi).mp h))
theorem mm_niceq (hi : i < 2 ^ 31) (hj : j < 2 ^ 31) (kt : i = j → mm_W G d k (mm_blk k t) ls st μ Q) (kf : ¬ i = j → mm_W G d k is ls st μ Q) : mm_W G d k ((.if_icmp .eq off, t, b, w, c) :: is) ls (.int (vb_i j) :: .int (vb_i i) :: st) μ Q :=
  mm_wiceq (fun h => kt ((vb_inj hi hj).mp h)) (fun h => kf (fun e => h (by rw [e])))
theorem mm_nicne (hi : i < 2 ^ 31) (hj : j < 2 ^ 31) (kt : ¬ i = j → mm_W G d k (mm_blk k t) ls st μ Q) (kf : i = j → mm_W G d k is ls st μ Q) : mm_W G d k ((.if_icmp .ne off, t, b, w, c) :: is) ls (.int (vb_i j) :: .int (vb_i i) :: st) μ Q :=
  mm_wicne (fun h => kt (fun e => h (by rw [e]))) (fun h => kf ((vb_inj hi hj).mp h))
theorem mm_niclt (hi : i < 2 ^ 31) (hj : j < 2 ^ 31) (kt : i < j → mm_W G d k (mm_blk k t) ls st μ Q) (kf : ¬ i < j → mm_W G d k is ls st μ Q) : mm_W G d k ((.if_icmp .lt off, t, b, w, c) :: is) ls (.int (vb_i j) :: .int (vb_i i) :: st) μ Q :=
  mm_wiclt (fun h => kt ((vb_lt hi hj).mp h)) (fun h => kf (mt (vb_lt hi hj).mpr h))
theorem mm_nicge (hi : i < 2 ^ 31) (hj : j < 2 ^ 31) (kt : ¬ i < j → mm_W G d k (mm_blk k t) ls st μ Q) (kf : i < j → mm_W G d k is ls st μ Q) : mm_W G d k ((.if_icmp .ge off, t, b, w, c) :: is) ls (.int (vb_i j) :: .int (vb_i i) :: st) μ Q :=
  mm_wicge (fun h => kt (mt (vb_lt hi hj).mpr h)) (fun h => kf ((vb_lt hi hj).mp h))
theorem mm_nicgt (hi : i < 2 ^ 31) (hj : j < 2 ^ 31) (kt : j < i → mm_W G d k (mm_blk k t) ls st μ Q) (kf : ¬ j < i → mm_W G d k is ls st μ Q) : mm_W G d k ((.if_icmp .gt off, t, b, w, c) :: is) ls (.int (vb_i j) :: .int (vb_i i) :: st) μ Q :=
  mm_wicgt (fun h => kt ((vb_lt hj hi).mp h)) (fun h => kf (mt (vb_lt hj hi).mpr h))
theorem mm_nicle (hi : i < 2 ^ 31) (hj : j < 2 ^ 31) (kt : ¬ j < i → mm_W G d k (mm_blk k t) ls st μ Q) (kf : j < i → mm_W G d k is ls st μ Q) : mm_W G d k ((.if_icmp .le off, t, b, w, c) :: is) ls (.int (vb_i j) :: .int (vb_i i) :: st) μ Q :=
  mm_wicle (fun h => kt (mt (vb_lt hj hi).mpr h)) (fun h => kf ((vb_lt hj hi).mp h))
/-! of truths -/
variable {q : Bool}
theorem mm_bifeq (kt : q = false → mm_W G d k (mm_blk k t) ls st μ Q) (kf : q = true → mm_W G d k is ls st μ Q) : mm_W G d k ((.ifCond .eq off, t, b, w, c) :: is) ls (.int (vb_b q) :: st) μ Q := by
  cases q with
  | false => exact mm_wifeq (fun _ => kt rfl) (fun h => absurd rfl h)
  | true => exact mm_wifeq (fun h => absurd h (by decide)) (fun _ => kf rfl)
theorem mm_bifne (kt : q = true → mm_W G d k (mm_blk k t) ls st μ Q) (kf : q = false → mm_W G d k is ls st μ Q) : mm_W G d k ((.ifCond .ne off, t, b, w, c) :: is) ls (.int (vb_b q) :: st) μ Q := by
  cases q with
  | false => exact mm_wifne (fun h => absurd rfl h) (fun _ => kf rfl)
  | true => exact mm_wifne (fun _ => kt rfl) (fun h => absurd h (by decide))
end IF
section NAT
variable {t b w : Nat} {c : Int32} {i j : Nat}
theorem mm_nadd (kk : mm_W G d k is ls (.int (vb_i (i + j)) :: st) μ Q) : mm_W G d k ((.iadd, t, b, w, c) :: is) ls (.int (vb_i j) :: .int (vb_i i) :: st) μ Q := mm_wv (vb_i (i + j)) rfl (vb_add i j) kk
theorem mm_nmul (kk : mm_W G d k is ls (.int (vb_i (i * j)) :: st) μ Q) : mm_W G d k ((.imul, t, b, w, c) :: is) ls (.int (vb_i j) :: .int (vb_i i) :: st) μ Q := mm_wv (vb_i (i * j)) rfl (vb_mul i j) kk
theorem mm_nsub (h : j ≤ i) (kk : mm_W G d k is ls (.int (vb_i (i - j)) :: st) μ Q) : mm_W G d k ((.isub, t, b, w, c) :: is) ls (.int (vb_i j) :: .int (vb_i i) :: st) μ Q := mm_wv (vb_i (i - j)) rfl (vb_sub h) kk
theorem vb_ne0 {j : Nat} (h0 : 0 < j) (hj : j < 2 ^ 31) : ¬ vb_i j = 0 := fun e => by
  have := (vb_inj hj (by omega : 0 < 2 ^ 31)).mp (e.trans rfl); omega
theorem mm_ndiv (h0 : 0 < j) (hi : i < 2 ^ 31) (hj : j < 2 ^ 31) (kk : mm_W G d k is ls (.int (vb_i (i / j)) :: st) μ Q) : mm_W G d k ((.idiv, t, b, w, c) :: is) ls (.int (vb_i j) :: .int (vb_i i) :: st) μ Q :=
  mm_wv (vb_i (i / j)) (by simp only [mm_one, if_neg (vb_ne0 h0 hj)]) (vb_div hi hj) kk
theorem mm_nrem (h0 : 0 < j) (hi : i < 2 ^ 31) (hj : j < 2 ^ 31) (kk : mm_W G d k is ls (.int (vb_i (i % j)) :: st) μ Q) : mm_W G d k ((.irem, t, b, w, c) :: is) ls (.int (vb_i j) :: .int (vb_i i) :: st) μ Q :=
  mm_wv (vb_i (i % j)) (by simp only [mm_one, if_neg (vb_ne0 h0 hj)]) (vb_rem hi hj) kk
theorem mm_wdiv {v y : Int32} (hy : ¬ y = 0) (kk : mm_W G d k is ls (.int (v / y) :: st) μ Q) : mm_W G d k ((.idiv, t, b, w, c) :: is) ls (.int y :: .int v :: st) μ Q :=
  mm_w1 (by simp only [mm_one, if_neg hy]) kk
theorem mm_wrem {v y : Int32} (hy : ¬ y = 0) (kk : mm_W G d k is ls (.int (v - v / y * y) :: st) μ Q) : mm_W G d k ((.irem, t, b, w, c) :: is) ls (.int y :: .int v :: st) μ Q :=
  mm_w1 (by simp only [mm_one, if_neg hy]) kk
theorem vb_bit_eq {j : Nat} (hj : j < 32) : (vb_i 1 : Int32) <<< (vb_i j &&& 31) = vb_bit j := by
  revert j; decide
theorem mm_nbit (hj : j < 32) (kk : mm_W G d k is ls (.int (vb_bit j) :: st) μ Q) : mm_W G d k ((.ishl, t, b, w, c) :: is) ls (.int (vb_i j) :: .int (vb_i 1) :: st) μ Q := mm_wv (vb_bit j) rfl (vb_bit_eq hj) kk
theorem vb_not (v : Int32) : v ^^^ (-1) = ~~~ v := by
  apply Int32.toBitVec_inj.mp
  rw [Int32.toBitVec_xor, Int32.toBitVec_not]
  have : (-1 : Int32).toBitVec = BitVec.allOnes 32 := by decide
  rw [this, BitVec.xor_allOnes]
theorem mm_nnot {v : Int32} (kk : mm_W G d k is ls (.int (~~~ v) :: st) μ Q) : mm_W G d k ((.ixor, t, b, w, c) :: is) ls (.int (-1) :: .int v :: st) μ Q := mm_wv (~~~ v) rfl (vb_not v) kk
theorem mm_ninc {a : Nat} {n : Int} (m : Nat) (hl : ls[a]? = some (.int (vb_i i))) (hm : Int32.ofInt n = vb_i m) (kk : mm_W G d k is (mm_s1 a (.int (vb_i (i + m))) ls) st μ Q) : mm_W G d k ((.iinc a n, t, b, w, c) :: is) ls st μ Q :=
  mm_w1 (by simp only [mm_one, hl, hm, vb_add]) kk
theorem mm_ndec {a : Nat} {n : Int} (m : Nat) (hl : ls[a]? = some (.int (vb_i i))) (hm : Int32.ofInt n = - vb_i m) (hi : m ≤ i) (kk : mm_W G d k is (mm_s1 a (.int (vb_i (i - m))) ls) st μ Q) : mm_W G d k ((.iinc a n, t, b, w, c) :: is) ls st μ Q :=
  mm_w1 (by simp only [mm_one, hl, hm, ← Int32.sub_eq_add_neg, vb_sub hi]) kk
theorem mm_wincv {a : Nat} {n : Int} {v : Int32} (y : Int32) (hl : ls[a]? = some (.int v)) (hm : v + Int32.ofInt n = y) (kk : mm_W G d k is (mm_s1 a (.int y) ls) st μ Q) : mm_W G d k ((.iinc a n, t, b, w, c) :: is) ls st μ Q :=
  mm_w1 (by simp only [mm_one, hl, hm]) kk
end NAT
section MEM
variable {I : Nat → Nat → Int32} {P : Nat → Nat → Nat} {J : Nat → Nat → Int64} {S : List (Nat × Nat)} {nc ns : Nat} {idx a ci slot w n t b j : Nat} {c i v : Int32}
theorem mm_wgi (hS : S[a]? = some (ci, n)) (hs : slot < n) (hf : mm_fk ci slot ≤ 1) (kk : mm_W G d k is ls (.int (I a slot) :: st) (I, P, J, S, nc, ns) Q) : mm_W G d k ((.getfield idx, ci, slot, w, c) :: is) ls (.ref a :: st) (I, P, J, S, nc, ns) Q :=
  mm_w1 (by simp only [mm_one, hS]; rw [if_pos ⟨trivial, hs⟩, if_pos hf]) kk
theorem mm_wgiv (y : Int32) (hS : S[a]? = some (ci, n)) (hs : slot < n) (hf : mm_fk ci slot ≤ 1) (e : I a slot = y) (kk : mm_W G d k is ls (.int y :: st) (I, P, J, S, nc, ns) Q) : mm_W G d k ((.getfield idx, ci, slot, w, c) :: is) ls (.ref a :: st) (I, P, J, S, nc, ns) Q := by
  subst e; exact mm_wgi hS hs hf kk
theorem mm_wgr {q : Nat} (hS : S[a]? = some (ci, n)) (hs : slot < n) (hf : mm_fk ci slot = 2) (hq : P a slot = q) (hq0 : q < 1000) (kk : mm_W G d k is ls (.ref q :: st) (I, P, J, S, nc, ns) Q) : mm_W G d k ((.getfield idx, ci, slot, w, c) :: is) ls (.ref a :: st) (I, P, J, S, nc, ns) Q :=
  mm_w1 (by simp only [mm_one, hS]; rw [if_pos ⟨trivial, hs⟩, hf, if_neg (by decide), if_pos rfl, hq, mm_rv, if_neg (by simp only [mm_NU]; omega)]) kk
theorem mm_wgl (hS : S[a]? = some (ci, n)) (hs : slot < n) (hf : mm_fk ci slot = 3) (kk : mm_W G d k is ls (.long (J a slot) :: st) (I, P, J, S, nc, ns) Q) : mm_W G d k ((.getfield idx, ci, slot, w, c) :: is) ls (.ref a :: st) (I, P, J, S, nc, ns) Q :=
  mm_w1 (by simp only [mm_one, hS]; rw [if_pos ⟨trivial, hs⟩, hf, if_neg (by decide), if_neg (by decide), if_pos rfl]) kk
theorem mm_wpi (hS : S[a]? = some (ci, n)) (hs : slot < n) (hf : mm_fk ci slot = 0) (kk : mm_W G d k is ls st (mm_up I a slot v, P, J, S, nc, ns) Q) : mm_W G d k ((.putfield idx, ci, slot, w, c) :: is) ls (.int v :: .ref a :: st) (I, P, J, S, nc, ns) Q :=
  mm_w1 (by simp only [mm_one, hS]; rw [if_pos ⟨trivial, hs, Or.inl hf⟩]) kk
theorem mm_wpz (hS : S[a]? = some (ci, n)) (hs : slot < n) (hf : mm_fk ci slot = 1) (hv : v = 0 ∨ v = 1) (kk : mm_W G d k is ls st (mm_up I a slot v, P, J, S, nc, ns) Q) : mm_W G d k ((.putfield idx, ci, slot, w, c) :: is) ls (.int v :: .ref a :: st) (I, P, J, S, nc, ns) Q :=
  mm_w1 (by simp only [mm_one, hS]; rw [if_pos ⟨trivial, hs, Or.inr ⟨hf, hv⟩⟩]) kk
theorem mm_wpr {q : Nat} (hS : S[a]? = some (ci, n)) (hs : slot < n) (hf : mm_fk ci slot = 2) (hq : q < 1000) (kk : mm_W G d k is ls st (I, mm_up P a slot q, J, S, nc, ns) Q) : mm_W G d k ((.putfield idx, ci, slot, w, c) :: is) ls (.ref q :: .ref a :: st) (I, P, J, S, nc, ns) Q :=
  mm_w1 (by simp only [mm_one, hS]; rw [if_pos ⟨trivial, hs, hf, (by simp only [mm_NU]; omega : ¬ q = mm_NU)⟩]) kk
theorem mm_wpl {q : Int64} (hS : S[a]? = some (ci, n)) (hs : slot < n) (hf : mm_fk ci slot = 3) (kk : mm_W G d k is ls st (I, P, mm_up J a slot q, S, nc, ns) Q) : mm_W G d k ((.putfield idx, ci, slot, w, c) :: is) ls (.long q :: .ref a :: st) (I, P, J, S, nc, ns) Q :=
  mm_w1 (by simp only [mm_one, hS]; rw [if_pos ⟨trivial, hs, hf⟩]) kk
theorem mm_wia (ha : a < 1000) (hS : S[a]? = some (100, n)) (hn : n ≤ 100000) (hj : j < n) (kk : mm_W G d k is ls (.int (I a j) :: st) (I, P, J, S, nc, ns) Q) : mm_W G d k ((.iaload, t, b, w, c) :: is) ls (.int (vb_i j) :: .ref a :: st) (I, P, J, S, nc, ns) Q :=
  mm_w1 (by simp only [mm_one, hS, if_neg (by simp only [mm_SC]; omega : ¬ a = mm_SC)]; rw [if_pos ⟨trivial, vb_ix hj (by omega)⟩, vb_nat (by omega)]) kk
theorem mm_wiav (y : Int32) (ha : a < 1000) (hS : S[a]? = some (100, n)) (hn : n ≤ 100000) (hj : j < n) (e : I a j = y) (kk : mm_W G d k is ls (.int y :: st) (I, P, J, S, nc, ns) Q) : mm_W G d k ((.iaload, t, b, w, c) :: is) ls (.int (vb_i j) :: .ref a :: st) (I, P, J, S, nc, ns) Q := by
  subst e; exact mm_wia ha hS hn hj kk
theorem mm_wza (hS : S[a]? = some (101, n)) (hn : n ≤ 100000) (hj : j < n) (kk : mm_W G d k is ls (.int (I a j) :: st) (I, P, J, S, nc, ns) Q) : mm_W G d k ((.baload, t, b, w, c) :: is) ls (.int (vb_i j) :: .ref a :: st) (I, P, J, S, nc, ns) Q :=
  mm_w1 (by simp only [mm_one, hS]; rw [if_pos ⟨trivial, vb_ix hj (by omega)⟩, vb_nat (by omega)]) kk
theorem mm_wzav (y : Int32) (hS : S[a]? = some (101, n)) (hn : n ≤ 100000) (hj : j < n) (e : I a j = y) (kk : mm_W G d k is ls (.int y :: st) (I, P, J, S, nc, ns) Q) : mm_W G d k ((.baload, t, b, w, c) :: is) ls (.int (vb_i j) :: .ref a :: st) (I, P, J, S, nc, ns) Q := by
  subst e; exact mm_wza hS hn hj kk
theorem mm_wla (hS : S[a]? = some (102, n)) (hn : n ≤ 100000) (hj : j < n) (kk : mm_W G d k is ls (.long (J a j) :: st) (I, P, J, S, nc, ns) Q) : mm_W G d k ((.laload, t, b, w, c) :: is) ls (.int (vb_i j) :: .ref a :: st) (I, P, J, S, nc, ns) Q :=
  mm_w1 (by simp only [mm_one, hS]; rw [if_pos ⟨trivial, vb_ix hj (by omega)⟩, vb_nat (by omega)]) kk
theorem mm_wis (hS : S[a]? = some (100, n)) (hn : n ≤ 100000) (hj : j < n) (kk : mm_W G d k is ls st (mm_up I a j v, P, J, S, nc, ns) Q) : mm_W G d k ((.iastore, t, b, w, c) :: is) ls (.int v :: .int (vb_i j) :: .ref a :: st) (I, P, J, S, nc, ns) Q :=
  mm_w1 (by simp only [mm_one, hS]; rw [if_pos ⟨trivial, vb_ix hj (by omega)⟩, vb_nat (by omega)]) kk
theorem mm_wzs (hS : S[a]? = some (101, n)) (hn : n ≤ 100000) (hj : j < n) (hv : v = 0 ∨ v = 1) (kk : mm_W G d k is ls st (mm_up I a j v, P, J, S, nc, ns) Q) : mm_W G d k ((.bastore, t, b, w, c) :: is) ls (.int v :: .int (vb_i j) :: .ref a :: st) (I, P, J, S, nc, ns) Q :=
  mm_w1 (by simp only [mm_one, hS]; rw [if_pos ⟨trivial, vb_ix hj (by omega), hv⟩, vb_nat (by omega)]) kk
theorem mm_wls {q : Int64} (hS : S[a]? = some (102, n)) (hn : n ≤ 100000) (hj : j < n) (kk : mm_W G d k is ls st (I, P, mm_up J a j q, S, nc, ns) Q) : mm_W G d k ((.lastore, t, b, w, c) :: is) ls (.long q :: .int (vb_i j) :: .ref a :: st) (I, P, J, S, nc, ns) Q :=
  mm_w1 (by simp only [mm_one, hS]; rw [if_pos ⟨trivial, vb_ix hj (by omega)⟩, vb_nat (by omega)]) kk
theorem mm_wal (ha : a < 1000) (hS : S[a]? = some (t, n)) (ht : t = 100 ∨ t = 101 ∨ t = 102) {x1 x2 x3 : Nat} (kk : mm_W G d k is ls (.int (vb_i n) :: st) (I, P, J, S, nc, ns) Q) : mm_W G d k ((.arraylength, x1, x2, x3, c) :: is) ls (.ref a :: st) (I, P, J, S, nc, ns) Q :=
  mm_w1 (by simp only [mm_one, hS, if_neg (by simp only [mm_SC]; omega : ¬ a = mm_SC)]; rw [if_pos ht]; rfl) kk
theorem mm_wsc (hj : j < G.1) (hG : G.1 ≤ 100000) (kk : mm_W G d k is ls (.int (G.2 j) :: st) μ Q) : mm_W G d k ((.iaload, t, b, w, c) :: is) ls (.int (vb_i j) :: .ref mm_SC :: st) μ Q :=
  mm_w1 (by simp only [mm_one, if_true]; rw [if_neg (vb_ix hj (by omega)), vb_nat (by omega)]) kk
theorem mm_wcpy {sp dp q : Nat} {a2 n2 : Nat} (hS : S[a]? = some (100, n)) (hS2 : S[a2]? = some (100, n2)) (hn : n ≤ 100000) (hn2 : n2 ≤ 100000) (h4 : sp + q ≤ n) (h5 : dp + q ≤ n2) (h6 : (st.map fun v => v.category).sum ≤ 8)
    (kk : mm_W G d k is ls st ((fun c => if c = a2 then va_cpy (I a) (I a2) sp dp q else I c), P, J, S, nc, ns) Q) : mm_W G d k ((.invokestatic idx, 9003, b, w, c) :: is) ls (.int (vb_i q) :: .int (vb_i dp) :: .ref a2 :: .int (vb_i sp) :: .ref a :: st) (I, P, J, S, nc, ns) Q :=
  mm_w1 (by
    simp only [mm_one, hS, hS2, if_true]
    rw [if_pos ⟨trivial, trivial, vb_ge0 (by omega), vb_ge0 (by omega), vb_ge0 (by omega), by rw [vb_nat (by omega), vb_nat (by omega)]; exact h4, by rw [vb_nat (by omega), vb_nat (by omega)]; exact h5, h6⟩, vb_nat (by omega), vb_nat (by omega), vb_nat (by omega)]) kk
end MEM
section CALL
variable {idx kk nA w : Nat} {c : Int32}
/-- any call of ours that comes back -/
theorem mm_wc {args rest : List Value} {Q1 : mm_R → Prop} (h1 : mm_one G x ls st μ = none) (h2 : mm_jmp x st = none) (h3 : mm_ret (mm_rk k) x st = none) (h4 : mm_thr x st = none) (h5 : mm_call x st μ = some (kk, args, rest)) (hd : 0 < d) (hc : mm_C G (d - 1) kk args μ Q1)
    (hk : ∀ r, Q1 r → ∃ v μ1, r = (.inl v, μ1) ∧ μ1.2.2.2.1.length = μ.2.2.2.1.length ∧ mm_W G d k is ls (v.toList ++ rest) μ1 Q) : mm_W G d k (x :: is) ls st μ Q := by
  obtain ⟨r, hr, q⟩ := hc
  obtain ⟨v, μ1, rfl, e, r2, hg, q2⟩ := hk r q
  obtain ⟨d, rfl⟩ : ∃ j, d = j + 1 := ⟨d - 1, by omega⟩
  exact ⟨r2, mm_cret h1 h2 h3 h4 h5 hr (Or.inl e) hg, q2⟩
theorem mm_wcs {args rest : List Value} {Q1 : mm_R → Prop} (h5 : mm_call (.invokestatic idx, kk, nA, w, c) st μ = some (kk, args, rest)) (h9 : kk < 9000) (hd : 0 < d) (hc : mm_C G (d - 1) kk args μ Q1)
    (hk : ∀ r, Q1 r → ∃ v μ1, r = (.inl v, μ1) ∧ μ1.2.2.2.1.length = μ.2.2.2.1.length ∧ mm_W G d k is ls (v.toList ++ rest) μ1 Q) : mm_W G d k ((.invokestatic idx, kk, nA, w, c) :: is) ls st μ Q :=
  mm_wc (by simp only [mm_one]; rw [if_neg (by omega), if_neg (by omega), if_neg (by omega), if_neg (by omega)]) rfl rfl rfl h5 hd hc hk
theorem mm_wcv {args rest : List Value} {Q1 : mm_R → Prop} (h5 : mm_call (.invokevirtual idx, kk, nA, w, c) st μ = some (kk, args, rest)) (h9 : kk < 9000) (hd : 0 < d) (hc : mm_C G (d - 1) kk args μ Q1)
    (hk : ∀ r, Q1 r → ∃ v μ1, r = (.inl v, μ1) ∧ μ1.2.2.2.1.length = μ.2.2.2.1.length ∧ mm_W G d k is ls (v.toList ++ rest) μ1 Q) : mm_W G d k ((.invokevirtual idx, kk, nA, w, c) :: is) ls st μ Q :=
  mm_wc (by simp only [mm_one]; rw [if_neg (by omega), if_neg (by omega)]) rfl rfl rfl h5 hd hc hk
end CALL
end WROWS
/-! contracts: what comes back, and what is known of the ints behind it -/
def vb_R (v : Option Value) (Φ : (Nat → Nat → Int32) → Prop) (P : Nat → Nat → Nat) (J : Nat → Nat → Int64) (S : List (Nat × Nat)) (nc ns : Nat) : mm_R → Prop := fun r => ∃ I', Φ I' ∧ r = (.inl v, (I', P, J, S, nc, ns))
section CALLS
variable {G : mm_G} {d k : Nat} {is : List mm_I} {ls st : List Value} {Q : mm_R → Prop} {idx kk nA w : Nat} {c : Int32} {I : Nat → Nat → Int32} {P : Nat → Nat → Nat} {J : Nat → Nat → Int64} {S : List (Nat × Nat)} {nc ns : Nat} {μ : mm_M}
/-- a method that changes nothing -/
theorem mm_csp {args rest : List Value} {y : Value} (h5 : mm_call (.invokestatic idx, kk, nA, w, c) st μ = some (kk, args, rest)) (h9 : kk < 9000) (hd : 0 < d) (hc : mm_Call G (d - 1) kk args μ (.inl (some y), μ)) (k2 : mm_W G d k is ls (y :: rest) μ Q) : mm_W G d k ((.invokestatic idx, kk, nA, w, c) :: is) ls st μ Q :=
  mm_wcs (Q1 := fun r => r = (.inl (some y), μ)) h5 h9 hd ⟨_, hc, rfl⟩ (fun r e => ⟨some y, μ, e, rfl, k2⟩)
theorem mm_cvp {args rest : List Value} {y : Value} (h5 : mm_call (.invokevirtual idx, kk, nA, w, c) st μ = some (kk, args, rest)) (h9 : kk < 9000) (hd : 0 < d) (hc : mm_Call G (d - 1) kk args μ (.inl (some y), μ)) (k2 : mm_W G d k is ls (y :: rest) μ Q) : mm_W G d k ((.invokevirtual idx, kk, nA, w, c) :: is) ls st μ Q :=
  mm_wcv (Q1 := fun r => r = (.inl (some y), μ)) h5 h9 hd ⟨_, hc, rfl⟩ (fun r e => ⟨some y, μ, e, rfl, k2⟩)
theorem mm_cvp0 {args rest : List Value} (h5 : mm_call (.invokevirtual idx, kk, nA, w, c) st μ = some (kk, args, rest)) (h9 : kk < 9000) (hd : 0 < d) (hc : mm_Call G (d - 1) kk args μ (.inl none, μ)) (k2 : mm_W G d k is ls rest μ Q) : mm_W G d k ((.invokevirtual idx, kk, nA, w, c) :: is) ls st μ Q :=
  mm_wcv (Q1 := fun r => r = (.inl none, μ)) h5 h9 hd ⟨_, hc, rfl⟩ (fun r e => ⟨none, μ, e, rfl, k2⟩)
/-- a method that changes ints -/
theorem mm_csi {args rest : List Value} {y : Value} {Φ : (Nat → Nat → Int32) → Prop} (h5 : mm_call (.invokestatic idx, kk, nA, w, c) st (I, P, J, S, nc, ns) = some (kk, args, rest)) (h9 : kk < 9000) (hd : 0 < d) (hc : mm_C G (d - 1) kk args (I, P, J, S, nc, ns) (vb_R (some y) Φ P J S nc ns)) (k2 : ∀ I', Φ I' → mm_W G d k is ls (y :: rest) (I', P, J, S, nc, ns) Q) : mm_W G d k ((.invokestatic idx, kk, nA, w, c) :: is) ls st (I, P, J, S, nc, ns) Q :=
  mm_wcs h5 h9 hd hc (fun r ⟨I', h, e⟩ => ⟨some y, _, e, rfl, k2 I' h⟩)
theorem mm_cvi {args rest : List Value} {y : Value} {Φ : (Nat → Nat → Int32) → Prop} (h5 : mm_call (.invokevirtual idx, kk, nA, w, c) st (I, P, J, S, nc, ns) = some (kk, args, rest)) (h9 : kk < 9000) (hd : 0 < d) (hc : mm_C G (d - 1) kk args (I, P, J, S, nc, ns) (vb_R (some y) Φ P J S nc ns)) (k2 : ∀ I', Φ I' → mm_W G d k is ls (y :: rest) (I', P, J, S, nc, ns) Q) : mm_W G d k ((.invokevirtual idx, kk, nA, w, c) :: is) ls st (I, P, J, S, nc, ns) Q :=
  mm_wcv h5 h9 hd hc (fun r ⟨I', h, e⟩ => ⟨some y, _, e, rfl, k2 I' h⟩)
theorem mm_cvn {args rest : List Value} {Φ : (Nat → Nat → Int32) → Prop} (h5 : mm_call (.invokevirtual idx, kk, nA, w, c) st (I, P, J, S, nc, ns) = some (kk, args, rest)) (h9 : kk < 9000) (hd : 0 < d) (hc : mm_C G (d - 1) kk args (I, P, J, S, nc, ns) (vb_R none Φ P J S nc ns)) (k2 : ∀ I', Φ I' → mm_W G d k is ls rest (I', P, J, S, nc, ns) Q) : mm_W G d k ((.invokevirtual idx, kk, nA, w, c) :: is) ls st (I, P, J, S, nc, ns) Q :=
  mm_wcv h5 h9 hd hc (fun r ⟨I', h, e⟩ => ⟨none, _, e, rfl, k2 I' h⟩)
/-- the callee throws, nobody here catches -/
theorem mm_wcthr {args rest : List Value} {E : Nat} {μ1 : mm_M} (h5 : mm_call (.invokevirtual idx, kk, nA, w, c) st μ = some (kk, args, rest)) (h9 : kk < 9000) (hd : 0 < d) (hc : mm_Call G (d - 1) kk args μ (.inr E, μ1)) (hh : mm_hs k = []) (q : Q (.inr E, μ1)) : mm_W G d k ((.invokevirtual idx, kk, nA, w, c) :: is) ls st μ Q := by
  obtain ⟨d, rfl⟩ : ∃ j, d = j + 1 := ⟨d - 1, by omega⟩
  exact ⟨_, mm_cthr (by simp only [mm_one]; rw [if_neg (by omega), if_neg (by omega)]) h5 hc hh, q⟩
end CALLS
