/-! THE REFERENCE'S WORDS: five bits a letter -/
def nt_5 (z : Int64) (c : Int32) : Int64 := (z <<< ((vb_i 5).toInt64 &&& 63)) ||| (c - vb_i 96).toInt64
def nt_wl (w : List Int32) : Int64 := w.foldl nt_5 0
def nt_tw (b : Nat → Int32) (s k : Nat) : List Int32 := (List.range k).map (fun i => b (s + i))
theorem nt_tw_s (b : Nat → Int32) (s k : Nat) : nt_wl (nt_tw b s (k + 1)) = nt_5 (nt_wl (nt_tw b s k)) (b (s + k)) := by
  rw [nt_wl, nt_wl, nt_tw, nt_tw, List.range_succ, List.map_append, List.foldl_append]; rfl
def nt_let (c : Int32) : Prop := ∃ e, 1 ≤ e ∧ e ≤ 26 ∧ c = vb_i (96 + e)
theorem tx_kd1 {c : Int32} : tx_kd c = 1 ↔ (97 ≤ c ∧ c ≤ 122) := by
  simp only [tx_kd]
  constructor
  · intro h
    split at h
    · assumption
    · exfalso
      split at h
      · cases h
      · split at h
        · cases h
        · split at h
          · rename_i h9
            rcases h9 with h9 | h9 | h9 | h9 | h9 | h9 | h9 | h9 | h9 <;> rw [h9] at h <;> exact absurd h (by decide)
          · cases h
  · intro h; rw [if_pos h]
theorem nt_let1 {c : Int32} (h : tx_kd c = 1) : nt_let c := by
  have h2 := tx_kd1.mp h
  have h4 := Int32.le_iff_toInt_le.mp h2.1
  have h5 := Int32.le_iff_toInt_le.mp h2.2
  have e4 : Int32.toInt 97 = 97 := by decide
  have e5 : Int32.toInt 122 = 122 := by decide
  have h3 : c.toInt = (c.toNatClampNeg : Int) := by
    show c.toInt = ((c.toInt.toNat : Nat) : Int)
    omega
  refine ⟨c.toNatClampNeg - 96, by omega, by omega, ?_⟩
  rw [show 96 + (c.toNatClampNeg - 96) = c.toNatClampNeg by omega]
  apply Int32.toInt.inj
  rw [vb_i, Int32.toInt_ofNat_of_lt (by omega)]
  exact h3
def nt_v (c : Int32) : Nat := c.toNatClampNeg - 96
theorem nt_v_eq (e : Nat) (he : e ≤ 26) : nt_v (vb_i (96 + e)) = e := by
  rw [nt_v, vb_i, Int32.toNatClampNeg_ofNat_of_lt (by omega)]; omega
/-- the last letter first -/
def nt_V : List Int32 → Nat
  | [] => 0
  | c :: r => nt_V r * 32 + nt_v c
theorem nt_sub (e : Nat) (h : e ≤ 26) : (vb_i (96 + e) - vb_i 96).toInt64 = Int64.ofNat e := by
  have : e = 0 ∨ e = 1 ∨ e = 2 ∨ e = 3 ∨ e = 4 ∨ e = 5 ∨ e = 6 ∨ e = 7 ∨ e = 8 ∨ e = 9 ∨ e = 10 ∨ e = 11 ∨ e = 12 ∨ e = 13 ∨ e = 14 ∨ e = 15 ∨ e = 16 ∨ e = 17 ∨ e = 18 ∨ e = 19 ∨ e = 20 ∨ e = 21 ∨ e = 22 ∨ e = 23 ∨ e = 24 ∨ e = 25 ∨ e = 26 := by omega
  rcases this with rfl | rfl | rfl | rfl | rfl | rfl | rfl | rfl | rfl | rfl | rfl | rfl | rfl | rfl | rfl | rfl | rfl | rfl | rfl | rfl | rfl | rfl | rfl | rfl | rfl | rfl | rfl <;> decide
theorem nt_step {m e : Nat} (hm : m < 2 ^ 35) (he : e ≤ 26) : nt_5 (Int64.ofNat m) (vb_i (96 + e)) = Int64.ofNat (m * 32 + e) := by
  rw [nt_5, nt_sub e he, show (vb_i 5).toInt64 &&& 63 = Int64.ofNat 5 by decide]
  apply Int64.toBitVec_inj.mp
  rw [Int64.toBitVec_or, Int64.toBitVec_shiftLeft, Int64.toBitVec_ofNat', Int64.toBitVec_ofNat', Int64.toBitVec_ofNat', Int64.toBitVec_ofNat']
  apply BitVec.eq_of_toNat_eq
  have e5 : (BitVec.ofNat 64 5).smod 64 = 5#64 := by decide
  rw [e5, BitVec.toNat_or, BitVec.toNat_ofNat, BitVec.toNat_ofNat]
  rw [show (BitVec.ofNat 64 m <<< 5#64) = BitVec.ofNat 64 m <<< 5 from rfl, BitVec.toNat_shiftLeft, BitVec.toNat_ofNat]
  have h1 : m % 2 ^ 64 = m := Nat.mod_eq_of_lt (by omega)
  have h2 : e % 2 ^ 64 = e := Nat.mod_eq_of_lt (by omega)
  have h3 : m <<< 5 = m * 32 := by rw [Nat.shiftLeft_eq]
  have h4 : m <<< 5 % 2 ^ 64 = m <<< 5 := Nat.mod_eq_of_lt (by rw [h3]; omega)
  rw [h1, h2, h4, ← Nat.shiftLeft_add_eq_or_of_lt (by omega : e < 2 ^ 5), h3]
  exact (Nat.mod_eq_of_lt (by omega)).symm
theorem nt_num : ∀ r : List Int32, (∀ c, c ∈ r → nt_let c) → r.length ≤ 7 → r.foldr (fun c z => nt_5 z c) 0 = Int64.ofNat (nt_V r) ∧ nt_V r < 32 ^ r.length := by
  intro r
  induction r with
  | nil => intro _ _; exact ⟨rfl, Nat.one_pos⟩
  | cons c r ih =>
    intro h hl
    obtain ⟨i1, i2⟩ := ih (fun x hx => h x (List.mem_cons_of_mem _ hx)) (by rw [List.length_cons] at hl; omega)
    obtain ⟨e, h1, h2, rfl⟩ := h c List.mem_cons_self
    have h7 : 32 ^ r.length ≤ 32 ^ 6 := Nat.pow_le_pow_right (by decide) (by rw [List.length_cons] at hl; omega)
    rw [List.foldr_cons, i1, nt_V, nt_v_eq e h2, List.length_cons, nt_step (by omega) h2]
    exact ⟨rfl, by rw [Nat.pow_succ]; omega⟩
theorem nt_inj : ∀ r r' : List Int32, (∀ c, c ∈ r → nt_let c) → (∀ c, c ∈ r' → nt_let c) → nt_V r = nt_V r' → r = r' := by
  intro r
  induction r with
  | nil =>
    intro r' _ h' e
    cases r' with
    | nil => rfl
    | cons c' r' =>
      exfalso
      obtain ⟨e', h1, h2, rfl⟩ := h' c' List.mem_cons_self
      rw [nt_V, nt_V, nt_v_eq e' h2] at e
      omega
  | cons c r ih =>
    intro r' h h' e
    obtain ⟨e1, h1, h2, rfl⟩ := h c List.mem_cons_self
    cases r' with
    | nil =>
      exfalso
      rw [nt_V, nt_V, nt_v_eq e1 h2] at e
      omega
    | cons c' r' =>
      obtain ⟨e', h1', h2', rfl⟩ := h' c' List.mem_cons_self
      rw [nt_V, nt_V, nt_v_eq e1 h2, nt_v_eq e' h2'] at e
      have e3 : e1 = e' := by omega
      have e4 : nt_V r = nt_V r' := by omega
      rw [e3, ih r' (fun x hx => h x (List.mem_cons_of_mem _ hx)) (fun x hx => h' x (List.mem_cons_of_mem _ hx)) e4]
theorem nt_64 {m m' : Nat} (h : m < 2 ^ 36) (h' : m' < 2 ^ 36) (e : Int64.ofNat m = Int64.ofNat m') : m = m' := by
  have := congrArg (fun z : Int64 => z.toBitVec.toNat) e
  simp only [Int64.toBitVec_ofNat', BitVec.toNat_ofNat] at this
  omega
theorem nt_wl_inj {w w' : List Int32} (h : ∀ c, c ∈ w → nt_let c) (h' : ∀ c, c ∈ w' → nt_let c) (hl : w.length ≤ 7) (hl' : w'.length ≤ 7) (e : nt_wl w = nt_wl w') : w = w' := by
  have k : ∀ w : List Int32, nt_wl w = w.reverse.foldr (fun c z => nt_5 z c) 0 := fun w => by rw [List.foldr_reverse]; rfl
  obtain ⟨a1, a2⟩ := nt_num w.reverse (fun c hc => h c (List.mem_reverse.mp hc)) (by rw [List.length_reverse]; exact hl)
  obtain ⟨b1, b2⟩ := nt_num w'.reverse (fun c hc => h' c (List.mem_reverse.mp hc)) (by rw [List.length_reverse]; exact hl')
  have p1 : 32 ^ w.reverse.length ≤ 32 ^ 7 := Nat.pow_le_pow_right (by decide) (by rw [List.length_reverse]; exact hl)
  have p2 : 32 ^ w'.reverse.length ≤ 32 ^ 7 := Nat.pow_le_pow_right (by decide) (by rw [List.length_reverse]; exact hl')
  rw [k w, k w', a1, b1] at e
  have := nt_inj _ _ (fun c hc => h c (List.mem_reverse.mp hc)) (fun c hc => h' c (List.mem_reverse.mp hc)) (nt_64 (by omega) (by omega) e)
  exact List.reverse_inj.mp this
theorem nt_wls : ∀ k, k < 16 → (tx_wl.getD k []).length ≤ 7 ∧ ∀ c, c ∈ tx_wl.getD k [] → tx_kd c = 1 := by decide
/-- a token is a known word just where the numbers are the same -/
theorem nt_word {b : Nat → Int32} {s k : Nat} (hk : k < 16) (h1 : tx_kd (b s) = 1) (hl : tx_E b s - s ≤ 7) : (nt_wl (tx_wl.getD k []) = nt_wl (nt_tw b s (tx_E b s - s))) ↔ tx_w b s = k := by
  have hlt : ∀ c, c ∈ nt_tw b s (tx_E b s - s) → nt_let c := fun c hc => by
    obtain ⟨i, hi, rfl⟩ := List.mem_map.mp hc
    have hi := List.mem_range.mp hi
    refine nt_let1 ?_
    have e : tx_E b s = tx_en b (tx_kd (b s)) 700 s := by rw [tx_E, if_pos (Or.inl h1)]
    rw [tx_en_kd (K := tx_kd (b s)) 700 s (s + i) (by omega) (by omega), h1]
  have hlen : (nt_tw b s (tx_E b s - s)).length = tx_E b s - s := by rw [nt_tw, List.length_map, List.length_range]
  have hw := nt_wls k hk
  have key : (tx_wl.getD k [] = nt_tw b s (tx_E b s - s)) ↔ tx_is b s (tx_wl.getD k []) = true := by
    simp only [tx_is, Bool.and_eq_true, decide_eq_true_eq]
    constructor
    · intro e
      refine ⟨⟨h1, by rw [e, hlen]⟩, List.all_eq_true.mpr (fun i hi => ?_)⟩
      have hi := List.mem_range.mp hi
      rw [e, hlen] at hi
      rw [beq_iff_eq, e, List.getD_eq_getElem?_getD, nt_tw, List.getElem?_map, List.getElem?_range hi]; rfl
    · intro ⟨⟨_, h2⟩, h3⟩
      refine List.ext_getElem (by rw [hlen, h2]) (fun i q1 q2 => ?_)
      have e1 := eq_of_beq (List.all_eq_true.mp h3 i (List.mem_range.mpr q1))
      rw [List.getD_eq_getElem?_getD, List.getElem?_eq_getElem q1] at e1
      have e1 : b (s + i) = (tx_wl.getD k [])[i] := e1
      rw [← e1]
      simp only [nt_tw, List.getElem_map, List.getElem_range]
  rw [tx_w_is hk, decide_eq_true_eq] at key
  rw [← key]
  constructor
  · intro e; exact nt_wl_inj (fun c hc => nt_let1 (hw.2 c hc)) hlt hw.1 (by omega) e
  · intro e; rw [e]
