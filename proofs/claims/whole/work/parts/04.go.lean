/-! RUNS OF THE SMALL MACHINE, goal first: mm_Go, and a row an instruction -/
def mm_Go (G : mm_G) (d k : Nat) (is : List mm_I) (ls st : List Value) (μ : mm_M) (r : mm_R) : Prop := ∃ n, mm_run G n d k is ls st μ = some r
def mm_Call (G : mm_G) (d k : Nat) (args : List Value) (μ : mm_M) (r : mm_R) : Prop := mm_Go G d k (mm_blk k 0) (mm_ent (mm_mx k) args) [] μ r
theorem mm_mono (G : mm_G) : ∀ (n d k : Nat) (is : List mm_I) (ls st : List Value) (μ : mm_M) (r : mm_R), mm_run G n d k is ls st μ = some r → ∀ (n' d' : Nat), n ≤ n' → d ≤ d' → mm_run G n' d' k is ls st μ = some r := by
  intro n
  induction n with
  | zero => intro d k is ls st μ r h; simp [mm_run] at h
  | succ n ih =>
    intro d k is ls st μ r h n' d' hn hd
    obtain ⟨n', rfl⟩ : ∃ j, n' = j + 1 := ⟨n' - 1, by omega⟩
    cases is with
    | nil => simp [mm_run] at h
    | cons x is =>
      simp only [mm_run] at h ⊢
      cases h1 : mm_one G x ls st μ with
      | some q => rw [h1] at h; obtain ⟨a, b, c⟩ := q; exact ih _ _ _ _ _ _ _ h _ _ (by omega) hd
      | none =>
        rw [h1] at h
        simp only at h ⊢
        cases h2 : mm_jmp x st with
        | some q =>
          rw [h2] at h
          obtain ⟨o, b⟩ := q
          cases o with
          | none => exact ih _ _ _ _ _ _ _ h _ _ (by omega) hd
          | some t => exact ih _ _ _ _ _ _ _ h _ _ (by omega) hd
        | none =>
          rw [h2] at h
          simp only at h ⊢
          cases h3 : mm_ret (mm_rk k) x st with
          | some q => rw [h3] at h; exact h
          | none =>
            rw [h3] at h
            simp only at h ⊢
            cases h4 : mm_thr x st with
            | some q => rw [h4] at h; exact h
            | none =>
              rw [h4] at h
              simp only at h ⊢
              cases h5 : mm_call x st μ with
              | none => rw [h5] at h; simp at h
              | some q =>
                rw [h5] at h
                obtain ⟨kk, args, rest⟩ := q
                simp only at h ⊢
                cases d with
                | zero => simp at h
                | succ d =>
                  obtain ⟨d', rfl⟩ : ∃ j, d' = j + 1 := ⟨d' - 1, by omega⟩
                  simp only at h ⊢
                  cases h6 : mm_run G n d kk (mm_blk kk 0) (mm_ent (mm_mx kk) args) [] μ with
                  | none => rw [h6] at h; simp at h
                  | some q =>
                    rw [h6] at h
                    rw [ih _ _ _ _ _ _ _ h6 n' d' (by omega) (by omega)]
                    obtain ⟨o, μ1⟩ := q
                    cases o with
                    | inl v =>
                      simp only at h ⊢
                      split at h
                      · rename_i hc; rw [if_pos hc]; exact ih _ _ _ _ _ _ _ h _ _ (by omega) (by omega)
                      · cases h
                    | inr E =>
                      simp only at h ⊢
                      split at h
                      · split at h
                        · exact h
                        · rename_i t h7
                          split at h
                          · split at h
                            · rename_i hc; rw [if_pos hc]; exact ih _ _ _ _ _ _ _ h _ _ (by omega) (by omega)
                            · cases h
                          · cases h
                      · cases h
theorem mm_Go.deep {G : mm_G} {d d' k : Nat} {is : List mm_I} {ls st : List Value} {μ : mm_M} {r : mm_R} (h : mm_Go G d k is ls st μ r) (hd : d ≤ d') : mm_Go G d' k is ls st μ r := by
  obtain ⟨n, hn⟩ := h
  exact ⟨n, mm_mono G n d k is ls st μ r hn n d' (Nat.le_refl _) hd⟩
theorem mm_Call.deep {G : mm_G} {d d' k : Nat} {args : List Value} {μ : mm_M} {r : mm_R} (h : mm_Call G d k args μ r) (hd : d ≤ d') : mm_Call G d' k args μ r := mm_Go.deep h hd
section GO
variable {G : mm_G} {d k : Nat} {is : List mm_I} {ls st : List Value} {μ : mm_M} {r : mm_R} {x : mm_I}
/-- a straight instruction -/
theorem mm_g1 {ls' st' : List Value} {μ' : mm_M} (h : mm_one G x ls st μ = some (ls', st', μ')) (kk : mm_Go G d k is ls' st' μ' r) : mm_Go G d k (x :: is) ls st μ r := by
  obtain ⟨n, hn⟩ := kk
  exact ⟨n + 1, by simp only [mm_run, h]; exact hn⟩
theorem mm_gj (t : Nat) {st' : List Value} (h1 : mm_one G x ls st μ = none) (h : mm_jmp x st = some (some t, st')) (kk : mm_Go G d k (mm_blk k t) ls st' μ r) : mm_Go G d k (x :: is) ls st μ r := by
  obtain ⟨n, hn⟩ := kk
  exact ⟨n + 1, by simp only [mm_run, h1, h]; exact hn⟩
theorem mm_gn {st' : List Value} (h1 : mm_one G x ls st μ = none) (h : mm_jmp x st = some (none, st')) (kk : mm_Go G d k is ls st' μ r) : mm_Go G d k (x :: is) ls st μ r := by
  obtain ⟨n, hn⟩ := kk
  exact ⟨n + 1, by simp only [mm_run, h1, h]; exact hn⟩
theorem mm_gr {v : Option Value} (h1 : mm_one G x ls st μ = none) (h2 : mm_jmp x st = none) (h : mm_ret (mm_rk k) x st = some v) : mm_Go G d k (x :: is) ls st μ (.inl v, μ) := ⟨1, by simp only [mm_run, h1, h2, h]⟩
/-- a jump that is always taken -/
theorem mm_goto {off : Int} {t b w : Nat} {c : Int32} (kk : mm_Go G d k (mm_blk k t) ls st μ r) : mm_Go G d k ((.goto off, t, b, w, c) :: is) ls st μ r := mm_gj t rfl rfl kk
section IF
variable {off : Int} {t b w : Nat} {c v y : Int32}
theorem mm_ifeq (kt : v = 0 → mm_Go G d k (mm_blk k t) ls st μ r) (kf : ¬ v = 0 → mm_Go G d k is ls st μ r) : mm_Go G d k ((.ifCond .eq off, t, b, w, c) :: is) ls (.int v :: st) μ r := by
  by_cases h : v = 0
  · exact mm_gj t rfl (by simp [mm_jmp, h]) (kt h)
  · exact mm_gn rfl (by simp [mm_jmp, h]) (kf h)
theorem mm_ifne (kt : ¬ v = 0 → mm_Go G d k (mm_blk k t) ls st μ r) (kf : v = 0 → mm_Go G d k is ls st μ r) : mm_Go G d k ((.ifCond .ne off, t, b, w, c) :: is) ls (.int v :: st) μ r := by
  by_cases h : v = 0
  · exact mm_gn rfl (by simp [mm_jmp, h]) (kf h)
  · exact mm_gj t rfl (by simp [mm_jmp, h]) (kt h)
theorem mm_iflt (kt : v < 0 → mm_Go G d k (mm_blk k t) ls st μ r) (kf : ¬ v < 0 → mm_Go G d k is ls st μ r) : mm_Go G d k ((.ifCond .lt off, t, b, w, c) :: is) ls (.int v :: st) μ r := by
  by_cases h : v < 0
  · exact mm_gj t rfl (by simp [mm_jmp, h]) (kt h)
  · exact mm_gn rfl (by simp only [mm_jmp, if_neg h]) (kf h)
theorem mm_ifge (kt : 0 ≤ v → mm_Go G d k (mm_blk k t) ls st μ r) (kf : ¬ 0 ≤ v → mm_Go G d k is ls st μ r) : mm_Go G d k ((.ifCond .ge off, t, b, w, c) :: is) ls (.int v :: st) μ r := by
  by_cases h : 0 ≤ v
  · exact mm_gj t rfl (by simp [mm_jmp, h]) (kt h)
  · exact mm_gn rfl (by simp only [mm_jmp, if_neg h]) (kf h)
theorem mm_ifgt (kt : 0 < v → mm_Go G d k (mm_blk k t) ls st μ r) (kf : ¬ 0 < v → mm_Go G d k is ls st μ r) : mm_Go G d k ((.ifCond .gt off, t, b, w, c) :: is) ls (.int v :: st) μ r := by
  by_cases h : 0 < v
  · exact mm_gj t rfl (by simp [mm_jmp, h]) (kt h)
  · exact mm_gn rfl (by simp only [mm_jmp, if_neg h]) (kf h)
theorem mm_ifle (kt : v ≤ 0 → mm_Go G d k (mm_blk k t) ls st μ r) (kf : ¬ v ≤ 0 → mm_Go G d k is ls st μ r) : mm_Go G d k ((.ifCond .le off, t, b, w, c) :: is) ls (.int v :: st) μ r := by
  by_cases h : v ≤ 0
  · exact mm_gj t rfl (by simp [mm_jmp, h]) (kt h)
  · exact mm_gn rfl (by simp only [mm_jmp, if_neg h]) (kf h)
theorem mm_iceq (kt : v = y → mm_Go G d k (mm_blk k t) ls st μ r) (kf : ¬ v = y → mm_Go G d k is ls st μ r) : mm_Go G d k ((.if_icmp .eq off, t, b, w, c) :: is) ls (.int y :: .int v :: st) μ r := by
  by_cases h : v = y
  · exact mm_gj t rfl (by simp [mm_jmp, h]) (kt h)
  · exact mm_gn rfl (by simp [mm_jmp, h]) (kf h)
theorem mm_icne (kt : ¬ v = y → mm_Go G d k (mm_blk k t) ls st μ r) (kf : v = y → mm_Go G d k is ls st μ r) : mm_Go G d k ((.if_icmp .ne off, t, b, w, c) :: is) ls (.int y :: .int v :: st) μ r := by
  by_cases h : v = y
  · exact mm_gn rfl (by simp [mm_jmp, h]) (kf h)
  · exact mm_gj t rfl (by simp [mm_jmp, h]) (kt h)
theorem mm_iclt (kt : v < y → mm_Go G d k (mm_blk k t) ls st μ r) (kf : ¬ v < y → mm_Go G d k is ls st μ r) : mm_Go G d k ((.if_icmp .lt off, t, b, w, c) :: is) ls (.int y :: .int v :: st) μ r := by
  by_cases h : v < y
  · exact mm_gj t rfl (by simp [mm_jmp, h]) (kt h)
  · exact mm_gn rfl (by simp only [mm_jmp, if_neg h]) (kf h)
theorem mm_icge (kt : y ≤ v → mm_Go G d k (mm_blk k t) ls st μ r) (kf : ¬ y ≤ v → mm_Go G d k is ls st μ r) : mm_Go G d k ((.if_icmp .ge off, t, b, w, c) :: is) ls (.int y :: .int v :: st) μ r := by
  by_cases h : y ≤ v
  · exact mm_gj t rfl (by simp [mm_jmp, h]) (kt h)
  · exact mm_gn rfl (by simp only [mm_jmp, if_neg h]) (kf h)
theorem mm_icgt (kt : y < v → mm_Go G d k (mm_blk k t) ls st μ r) (kf : ¬ y < v → mm_Go G d k is ls st μ r) : mm_Go G d k ((.if_icmp .gt off, t, b, w, c) :: is) ls (.int y :: .int v :: st) μ r := by
  by_cases h : y < v
  · exact mm_gj t rfl (by simp [mm_jmp, h]) (kt h)
  · exact mm_gn rfl (by simp only [mm_jmp, if_neg h]) (kf h)
theorem mm_icle (kt : v ≤ y → mm_Go G d k (mm_blk k t) ls st μ r) (kf : ¬ v ≤ y → mm_Go G d k is ls st μ r) : mm_Go G d k ((.if_icmp .le off, t, b, w, c) :: is) ls (.int y :: .int v :: st) μ r := by
  by_cases h : v ≤ y
  · exact mm_gj t rfl (by simp [mm_jmp, h]) (kt h)
  · exact mm_gn rfl (by simp only [mm_jmp, if_neg h]) (kf h)
end IF
section MEM
variable {I : Nat → Nat → Int32} {P : Nat → Nat → Nat} {J : Nat → Nat → Int64} {S : List (Nat × Nat)} {nc ns : Nat} {idx a ci slot w n t b : Nat} {c i v : Int32}
theorem mm_geti (hS : S[a]? = some (ci, n)) (hs : slot < n) (hf : mm_fk ci slot ≤ 1) (kk : mm_Go G d k is ls (.int (I a slot) :: st) (I, P, J, S, nc, ns) r) : mm_Go G d k ((.getfield idx, ci, slot, w, c) :: is) ls (.ref a :: st) (I, P, J, S, nc, ns) r :=
  mm_g1 (by simp [mm_one, hS, hs, hf]) kk
theorem mm_getr {q : Nat} (hS : S[a]? = some (ci, n)) (hs : slot < n) (hf : mm_fk ci slot = 2) (hq : P a slot = q) (hq0 : q ≠ mm_NU) (kk : mm_Go G d k is ls (.ref q :: st) (I, P, J, S, nc, ns) r) : mm_Go G d k ((.getfield idx, ci, slot, w, c) :: is) ls (.ref a :: st) (I, P, J, S, nc, ns) r :=
  mm_g1 (by simp [mm_one, hS, hs, hf, hq, mm_rv, hq0]) kk
theorem mm_getl (hS : S[a]? = some (ci, n)) (hs : slot < n) (hf : mm_fk ci slot = 3) (kk : mm_Go G d k is ls (.long (J a slot) :: st) (I, P, J, S, nc, ns) r) : mm_Go G d k ((.getfield idx, ci, slot, w, c) :: is) ls (.ref a :: st) (I, P, J, S, nc, ns) r :=
  mm_g1 (by simp [mm_one, hS, hs, hf]) kk
theorem mm_puti (hS : S[a]? = some (ci, n)) (hs : slot < n) (hf : mm_fk ci slot = 0) (kk : mm_Go G d k is ls st (mm_up I a slot v, P, J, S, nc, ns) r) : mm_Go G d k ((.putfield idx, ci, slot, w, c) :: is) ls (.int v :: .ref a :: st) (I, P, J, S, nc, ns) r :=
  mm_g1 (by simp [mm_one, hS, hs, hf]) kk
theorem mm_putz (hS : S[a]? = some (ci, n)) (hs : slot < n) (hf : mm_fk ci slot = 1) (hv : v = 0 ∨ v = 1) (kk : mm_Go G d k is ls st (mm_up I a slot v, P, J, S, nc, ns) r) : mm_Go G d k ((.putfield idx, ci, slot, w, c) :: is) ls (.int v :: .ref a :: st) (I, P, J, S, nc, ns) r :=
  mm_g1 (by simp [mm_one, hS, hs, hf, hv]) kk
theorem mm_putr {q : Nat} (hS : S[a]? = some (ci, n)) (hs : slot < n) (hf : mm_fk ci slot = 2) (hq : q ≠ mm_NU) (kk : mm_Go G d k is ls st (I, mm_up P a slot q, J, S, nc, ns) r) : mm_Go G d k ((.putfield idx, ci, slot, w, c) :: is) ls (.ref q :: .ref a :: st) (I, P, J, S, nc, ns) r :=
  mm_g1 (by simp [mm_one, hS, hs, hf, hq]) kk
theorem mm_putl {q : Int64} (hS : S[a]? = some (ci, n)) (hs : slot < n) (hf : mm_fk ci slot = 3) (kk : mm_Go G d k is ls st (I, P, mm_up J a slot q, S, nc, ns) r) : mm_Go G d k ((.putfield idx, ci, slot, w, c) :: is) ls (.long q :: .ref a :: st) (I, P, J, S, nc, ns) r :=
  mm_g1 (by simp [mm_one, hS, hs, hf]) kk
theorem mm_iald (ha : a ≠ mm_SC) (hS : S[a]? = some (100, n)) (hi : mm_ix i n) (kk : mm_Go G d k is ls (.int (I a i.toNatClampNeg) :: st) (I, P, J, S, nc, ns) r) : mm_Go G d k ((.iaload, t, b, w, c) :: is) ls (.int i :: .ref a :: st) (I, P, J, S, nc, ns) r :=
  mm_g1 (by simp only [mm_one, hS, if_neg ha]; rw [if_pos ⟨trivial, hi⟩]) kk
theorem mm_iast (hS : S[a]? = some (100, n)) (hi : mm_ix i n) (kk : mm_Go G d k is ls st (mm_up I a i.toNatClampNeg v, P, J, S, nc, ns) r) : mm_Go G d k ((.iastore, t, b, w, c) :: is) ls (.int v :: .int i :: .ref a :: st) (I, P, J, S, nc, ns) r :=
  mm_g1 (by simp only [mm_one, hS]; rw [if_pos ⟨trivial, hi⟩]) kk
theorem mm_zald (hS : S[a]? = some (101, n)) (hi : mm_ix i n) (kk : mm_Go G d k is ls (.int (I a i.toNatClampNeg) :: st) (I, P, J, S, nc, ns) r) : mm_Go G d k ((.baload, t, b, w, c) :: is) ls (.int i :: .ref a :: st) (I, P, J, S, nc, ns) r :=
  mm_g1 (by simp only [mm_one, hS]; rw [if_pos ⟨trivial, hi⟩]) kk
theorem mm_zast (hS : S[a]? = some (101, n)) (hi : mm_ix i n) (hv : v = 0 ∨ v = 1) (kk : mm_Go G d k is ls st (mm_up I a i.toNatClampNeg v, P, J, S, nc, ns) r) : mm_Go G d k ((.bastore, t, b, w, c) :: is) ls (.int v :: .int i :: .ref a :: st) (I, P, J, S, nc, ns) r :=
  mm_g1 (by simp only [mm_one, hS]; rw [if_pos ⟨trivial, hi, hv⟩]) kk
theorem mm_lald (hS : S[a]? = some (102, n)) (hi : mm_ix i n) (kk : mm_Go G d k is ls (.long (J a i.toNatClampNeg) :: st) (I, P, J, S, nc, ns) r) : mm_Go G d k ((.laload, t, b, w, c) :: is) ls (.int i :: .ref a :: st) (I, P, J, S, nc, ns) r :=
  mm_g1 (by simp only [mm_one, hS]; rw [if_pos ⟨trivial, hi⟩]) kk
theorem mm_last {q : Int64} (hS : S[a]? = some (102, n)) (hi : mm_ix i n) (kk : mm_Go G d k is ls st (I, P, mm_up J a i.toNatClampNeg q, S, nc, ns) r) : mm_Go G d k ((.lastore, t, b, w, c) :: is) ls (.long q :: .int i :: .ref a :: st) (I, P, J, S, nc, ns) r :=
  mm_g1 (by simp only [mm_one, hS]; rw [if_pos ⟨trivial, hi⟩]) kk
theorem mm_alen (ha : a ≠ mm_SC) (hS : S[a]? = some (t, n)) (ht : t = 100 ∨ t = 101 ∨ t = 102) {x1 x2 x3 : Nat} (kk : mm_Go G d k is ls (.int (Int32.ofNat n) :: st) (I, P, J, S, nc, ns) r) : mm_Go G d k ((.arraylength, x1, x2, x3, c) :: is) ls (.ref a :: st) (I, P, J, S, nc, ns) r :=
  mm_g1 (by simp only [mm_one, hS, if_neg ha, if_pos ht]) kk
theorem mm_sald (hi : mm_ix i G.1) (kk : mm_Go G d k is ls (.int (G.2 i.toNatClampNeg) :: st) μ r) : mm_Go G d k ((.iaload, t, b, w, c) :: is) ls (.int i :: .ref mm_SC :: st) μ r :=
  mm_g1 (by simp only [mm_one, if_true]; rw [if_neg hi]) kk
theorem mm_div (hy : ¬ v = 0) (kk : mm_Go G d k is ls (.int (i / v) :: st) μ r) : mm_Go G d k ((.idiv, t, b, w, c) :: is) ls (.int v :: .int i :: st) μ r :=
  mm_g1 (by simp only [mm_one, if_neg hy]) kk
theorem mm_rem (hy : ¬ v = 0) (kk : mm_Go G d k is ls (.int (i - i / v * v) :: st) μ r) : mm_Go G d k ((.irem, t, b, w, c) :: is) ls (.int v :: .int i :: st) μ r :=
  mm_g1 (by simp only [mm_one, if_neg hy]) kk
theorem mm_cpy {sp dp q : Int32} {a2 n2 : Nat} (hS : S[a]? = some (100, n)) (hS2 : S[a2]? = some (100, n2)) (h1 : ¬ q < 0) (h2 : ¬ sp < 0) (h3 : ¬ dp < 0) (h4 : sp.toNatClampNeg + q.toNatClampNeg ≤ n) (h5 : dp.toNatClampNeg + q.toNatClampNeg ≤ n2) (h6 : (st.map fun v => v.category).sum ≤ 8)
    (kk : mm_Go G d k is ls st ((fun c => if c = a2 then va_cpy (I a) (I a2) sp.toNatClampNeg dp.toNatClampNeg q.toNatClampNeg else I c), P, J, S, nc, ns) r) : mm_Go G d k ((.invokestatic idx, 9003, b, w, c) :: is) ls (.int q :: .int dp :: .ref a2 :: .int sp :: .ref a :: st) (I, P, J, S, nc, ns) r :=
  mm_g1 (by simp only [mm_one, hS, hS2, if_true]; rw [if_pos ⟨trivial, trivial, h1, h2, h3, h4, h5, h6⟩]) kk
end MEM
section CALL
variable {idx kk nA w : Nat} {c : Int32} {v : Option Value} {μ1 : mm_M}
theorem mm_cret {args rest : List Value} (h1 : mm_one G x ls st μ = none) (h2 : mm_jmp x st = none) (h3 : mm_ret (mm_rk k) x st = none) (h4 : mm_thr x st = none) (h5 : mm_call x st μ = some (kk, args, rest)) (hc : mm_Call G d kk args μ (.inl v, μ1)) (hk : μ1.2.2.2.1.length = μ.2.2.2.1.length ∨ (ls.all (mm_okv μ.2.2.2.1.length) = true ∧ rest.all (mm_okv μ.2.2.2.1.length) = true)) (kk2 : mm_Go G (d + 1) k is ls (v.toList ++ rest) μ1 r) : mm_Go G (d + 1) k (x :: is) ls st μ r := by
  obtain ⟨n1, e1⟩ := hc
  obtain ⟨n2, e2⟩ := kk2
  refine ⟨max n1 n2 + 1, ?_⟩
  simp only [mm_run, h1, h2, h3, h4, h5]
  rw [mm_mono G _ _ _ _ _ _ _ _ e1 (max n1 n2) d (Nat.le_max_left _ _) (Nat.le_refl _)]
  simp only
  rw [if_pos hk]
  exact mm_mono G _ _ _ _ _ _ _ _ e2 (max n1 n2) (d + 1) (Nat.le_max_right _ _) (Nat.le_refl _)
/-- the callee throws, nobody here catches -/
theorem mm_cthr {args rest : List Value} {E : Nat} (h1 : mm_one G (.invokevirtual idx, kk, nA, w, c) ls st μ = none) (h5 : mm_call (.invokevirtual idx, kk, nA, w, c) st μ = some (kk, args, rest)) (hc : mm_Call G d kk args μ (.inr E, μ1)) (hh : mm_hs k = []) : mm_Go G (d + 1) k ((.invokevirtual idx, kk, nA, w, c) :: is) ls st μ (.inr E, μ1) := by
  obtain ⟨n1, e1⟩ := hc
  refine ⟨n1 + 1, ?_⟩
  simp only [mm_run, h1, h5, e1, hh, mm_hd, List.isEmpty_nil, if_true, mm_jmp, mm_ret, mm_thr]
theorem mm_ccat {args rest : List Value} {E h i : Nat} {is2 : List mm_I} (h1 : mm_one G (.invokevirtual idx, kk, nA, w, c) ls st μ = none) (h5 : mm_call (.invokevirtual idx, kk, nA, w, c) st μ = some (kk, args, rest)) (hc : mm_Call G d kk args μ (.inr E, μ1)) (hh : mm_hd (mm_hs k) c.toNatClampNeg E = some h) (ha : mm_ast (mm_blk k h) = some (i, is2)) (hk : i < ls.length ∧ μ1.2.2.2.1.length = μ.2.2.2.1.length) (kk2 : mm_Go G (d + 1) k is2 (mm_s1 i .null ls) [] μ1 r) : mm_Go G (d + 1) k ((.invokevirtual idx, kk, nA, w, c) :: is) ls st μ r := by
  obtain ⟨n1, e1⟩ := hc
  obtain ⟨n2, e2⟩ := kk2
  refine ⟨max n1 n2 + 1, ?_⟩
  simp only [mm_run, h1, h5, mm_jmp, mm_ret, mm_thr]
  rw [mm_mono G _ _ _ _ _ _ _ _ e1 (max n1 n2) d (Nat.le_max_left _ _) (Nat.le_refl _)]
  simp only [hh, ha]
  rw [if_pos hk]
  exact mm_mono G _ _ _ _ _ _ _ _ e2 (max n1 n2) (d + 1) (Nat.le_max_right _ _) (Nat.le_refl _)
theorem mm_thrw {E : Nat} (h1 : mm_one G x ls st μ = none) (h2 : mm_jmp x st = none) (h3 : mm_ret (mm_rk k) x st = none) (h4 : mm_thr x st = some E) : mm_Go G d k (x :: is) ls st μ (.inr E, (μ.1, μ.2.1, μ.2.2.1, μ.2.2.2.1, μ.2.2.2.2.1 + 1, μ.2.2.2.2.2 + 6)) := ⟨1, by simp only [mm_run, h1, h2, h3, h4]⟩
/-- a static call -/
theorem mm_cs {args rest : List Value} (hl : idx = idx) (h5 : mm_call (.invokestatic idx, kk, nA, w, c) st μ = some (kk, args, rest)) (hc : mm_Call G d kk args μ (.inl v, μ1)) (hk : μ1.2.2.2.1.length = μ.2.2.2.1.length) (h9 : kk < 9000) (kk2 : mm_Go G (d + 1) k is ls (v.toList ++ rest) μ1 r) : mm_Go G (d + 1) k ((.invokestatic idx, kk, nA, w, c) :: is) ls st μ r :=
  mm_cret (by simp only [mm_one]; rw [if_neg (by omega), if_neg (by omega), if_neg (by omega), if_neg (by omega)]) rfl rfl rfl h5 hc (Or.inl hk) kk2
theorem mm_cv {args rest : List Value} (h5 : mm_call (.invokevirtual idx, kk, nA, w, c) st μ = some (kk, args, rest)) (hc : mm_Call G d kk args μ (.inl v, μ1)) (hk : μ1.2.2.2.1.length = μ.2.2.2.1.length) (h9 : kk < 9000) (kk2 : mm_Go G (d + 1) k is ls (v.toList ++ rest) μ1 r) : mm_Go G (d + 1) k ((.invokevirtual idx, kk, nA, w, c) :: is) ls st μ r :=
  mm_cret (by simp only [mm_one]; rw [if_neg (by omega), if_neg (by omega)]) rfl rfl rfl h5 hc (Or.inl hk) kk2
end CALL
end GO
