/-! SETS OF VILLAGES AS INTS -/
theorem vb_ext {a b : Int32} (h : ∀ v, v < 32 → vb_has a v = vb_has b v) : a = b :=
  Int32.toBitVec_inj.mp (BitVec.eq_of_getLsbD_eq (fun i hi => h i hi))
theorem vb_has_and (a b : Int32) (v : Nat) : vb_has (a &&& b) v = (vb_has a v && vb_has b v) := by
  simp only [vb_has, Int32.toBitVec_and, BitVec.getLsbD_and]
theorem vb_has_or (a b : Int32) (v : Nat) : vb_has (a ||| b) v = (vb_has a v || vb_has b v) := by
  simp only [vb_has, Int32.toBitVec_or, BitVec.getLsbD_or]
theorem vb_has_not (a : Int32) {v : Nat} (hv : v < 32) : vb_has (~~~ a) v = !vb_has a v := by
  simp only [vb_has, Int32.toBitVec_not, BitVec.getLsbD_not, decide_eq_true hv, Bool.true_and]
theorem vb_has_ge (a : Int32) {v : Nat} (hv : 32 ≤ v) : vb_has a v = false := by
  simp only [vb_has]; exact BitVec.getLsbD_of_ge _ _ hv
theorem vb_has_bit {j v : Nat} (hj : j < 32) : vb_has (vb_bit j) v = decide (v = j) := by
  by_cases hv : v < 32
  · have : ∀ j, j < 32 → ∀ v, v < 32 → vb_has (vb_bit j) v = decide (v = j) := by decide
    exact this j hj v hv
  · rw [vb_has_ge _ (by omega)]; exact (decide_eq_false (by omega)).symm
theorem vb_has_0 (v : Nat) : vb_has 0 v = false := by
  simp only [vb_has]; exact BitVec.getLsbD_zero
theorem vb_b_eq0 {q : Bool} : vb_b q = 0 ↔ q = false := by cases q <;> decide
theorem vb_b_ne0 {q : Bool} : ¬ vb_b q = 0 ↔ q = true := by cases q <;> decide
theorem vb_b01 (q : Bool) : vb_b q = 0 ∨ vb_b q = 1 := by cases q <;> decide
theorem vb_b_nat (q : Bool) : vb_b q = vb_i q.toNat := by cases q <;> rfl
theorem vb_sh {j : Nat} (hj : j < 32) : ((vb_i j &&& 31 : Int32).toBitVec.smod 32).toNat = j := by
  revert j; decide
theorem vb_shr1 (s : Int32) {j : Nat} (hj : j < 32) : (s >>> (vb_i j &&& 31)) &&& vb_i 1 = vb_b (vb_has s j) := by
  apply vb_ext
  intro v hv
  rw [vb_has_and]
  have e : vb_has (vb_i 1) v = decide (v = 0) := by
    have := vb_has_bit (j := 0) (v := v) (by decide); exact this
  rw [e]
  by_cases h0 : v = 0
  · subst h0
    simp only [decide_true, Bool.and_true]
    have e1 : vb_has (s >>> (vb_i j &&& 31)) 0 = vb_has s j := by
      simp only [vb_has, Int32.toBitVec_shiftRight]
      rw [BitVec.sshiftRight_eq']
      have := vb_sh hj
      rw [show ((vb_i j &&& 31 : Int32).toBitVec.smod 32).toNat = j from this, BitVec.getLsbD_sshiftRight]
      simp [hj]
    rw [e1]
    cases vb_has s j <;> decide
  · rw [decide_eq_false h0, Bool.and_false]
    have : vb_has (vb_b (vb_has s j)) v = false := by
      cases vb_has s j
      · exact vb_has_0 v
      · have := vb_has_bit (j := 0) (v := v) (by decide)
        rw [decide_eq_false h0] at this; exact this
    rw [this]
/-- the set of those below n of which p holds -/
def vb_set (n : Nat) (p : Nat → Bool) : Int32 := match n with
  | 0 => 0
  | n + 1 => if p n then vb_set n p ||| vb_bit n else vb_set n p
theorem vb_has_set {n : Nat} (p : Nat → Bool) (hn : n ≤ 32) (v : Nat) : vb_has (vb_set n p) v = (decide (v < n) && p v) := by
  induction n with
  | zero => simp only [vb_set, vb_has_0]; simp
  | succ n ih =>
    have ih := ih (by omega)
    simp only [vb_set]
    split
    · rename_i hp
      rw [vb_has_or, ih, vb_has_bit (by omega)]
      by_cases h : v = n
      · subst h; simp [hp]
      · have : (v < n + 1) ↔ v < n := by omega
        simp [h, this]
    · rename_i hp
      rw [ih]
      by_cases h : v = n
      · subst h; simp at hp; simp [hp]
      · have : (v < n + 1) ↔ v < n := by omega
        simp [this]
/-- a set of villages below n -/
def vb_below (n : Nat) (s : Int32) : Prop := ∀ v, vb_has s v = true → v < n
theorem vb_eq_set {n : Nat} {s : Int32} {p : Nat → Bool} (hn : n ≤ 32) (hb : vb_below n s) (h : ∀ v, v < n → vb_has s v = p v) : s = vb_set n p := by
  apply vb_ext
  intro v _
  rw [vb_has_set p hn]
  by_cases hv : v < n
  · rw [h v hv, decide_eq_true hv, Bool.true_and]
  · rw [decide_eq_false hv, Bool.false_and]
    cases e : vb_has s v with
    | false => rfl
    | true => exact absurd (hb v e) hv
theorem vb_set_below {n : Nat} (hn : n ≤ 32) (p : Nat → Bool) : vb_below n (vb_set n p) := by
  intro v h
  rw [vb_has_set p hn] at h
  simp at h; exact h.1
theorem vb_set_congr {n : Nat} {p q : Nat → Bool} (h : ∀ v, v < n → p v = q v) : vb_set n p = vb_set n q := by
  induction n with
  | zero => rfl
  | succ n ih => simp only [vb_set, ih (fun v hv => h v (by omega)), h n (by omega)]
theorem vb_set_eq0 {n : Nat} (hn : n ≤ 32) (p : Nat → Bool) : vb_set n p = 0 ↔ ∀ v, v < n → p v = false := by
  constructor
  · intro h v hv
    have := vb_has_set p hn v
    rw [h, vb_has_0, decide_eq_true hv, Bool.true_and] at this
    exact this.symm
  · intro h
    apply vb_ext
    intro v _
    rw [vb_has_set p hn, vb_has_0]
    by_cases hv : v < n
    · rw [h v hv, Bool.and_false]
    · rw [decide_eq_false hv, Bool.false_and]
theorem vb_eq0 {s : Int32} : s = 0 ↔ ∀ v, v < 32 → vb_has s v = false := by
  constructor
  · rintro rfl v _; exact vb_has_0 v
  · intro h; exact vb_ext (fun v hv => by rw [h v hv, vb_has_0])
/-- how many -/
def vb_cnt (n : Nat) (p : Nat → Bool) : Nat := match n with
  | 0 => 0
  | n + 1 => vb_cnt n p + (p n).toNat
theorem vb_cnt_congr {n : Nat} {p q : Nat → Bool} (h : ∀ v, v < n → p v = q v) : vb_cnt n p = vb_cnt n q := by
  induction n with
  | zero => rfl
  | succ n ih => simp only [vb_cnt, ih (fun v hv => h v (by omega)), h n (by omega)]
theorem vb_cnt_le (n : Nat) (p : Nat → Bool) : vb_cnt n p ≤ n := by
  induction n with
  | zero => exact Nat.le_refl _
  | succ n ih => simp only [vb_cnt]; have : (p n).toNat ≤ 1 := by cases p n <;> decide
                 omega
theorem vb_cnt_mono {n : Nat} {p q : Nat → Bool} (h : ∀ v, v < n → p v = true → q v = true) : vb_cnt n p ≤ vb_cnt n q := by
  induction n with
  | zero => exact Nat.le_refl _
  | succ n ih =>
    simp only [vb_cnt]
    have h1 := ih (fun v hv => h v (by omega))
    have h2 : (p n).toNat ≤ (q n).toNat := by
      have := h n (by omega)
      cases hp : p n
      · exact Nat.zero_le _
      · rw [this hp]; exact Nat.le_refl _
    omega
theorem vb_cnt_up {n m : Nat} {p : Nat → Bool} (hm : n ≤ m) (h : ∀ v, n ≤ v → p v = false) : vb_cnt m p = vb_cnt n p := by
  induction m with
  | zero => have : n = 0 := by omega
            subst this; rfl
  | succ m ih =>
    by_cases e : n = m + 1
    · subst e; rfl
    · simp only [vb_cnt, h m (by omega), ih (by omega)]; rfl
/-- going down from n: what each i gets of i + 1 -/
theorem vb_down {p : Nat → Prop} (n : Nat) (h : ∀ i, i ≤ n → (i < n → p (i + 1)) → p i) : ∀ i, i ≤ n → p i := by
  intro i hi
  obtain ⟨j, rfl⟩ : ∃ j, n = i + j := ⟨n - i, by omega⟩
  induction j generalizing i with
  | zero => exact h i hi (fun hh => absurd hh (by omega))
  | succ j ih =>
    refine h i hi (fun _ => ?_)
    have := ih (i + 1) (by intro a ha hb; exact h a (by omega) (fun hc => hb (by omega))) (by omega)
    exact this
/-- sums and unions over those below n -/
def vb_sum (n : Nat) (f : Nat → Int32) : Int32 := match n with
  | 0 => 0
  | n + 1 => vb_sum n f + f n
theorem vb_sum_congr {n : Nat} {p q : Nat → Int32} (h : ∀ v, v < n → p v = q v) : vb_sum n p = vb_sum n q := by
  induction n with
  | zero => rfl
  | succ n ih => simp only [vb_sum, ih (fun v hv => h v (by omega)), h n (by omega)]
/-- memory: but for some cells nothing has changed -/
def vb_fr (F : Nat → Prop) (I I' : Nat → Nat → Int32) : Prop := ∀ a, ¬ F a → I' a = I a
theorem vb_fr.rf {F : Nat → Prop} {I : Nat → Nat → Int32} : vb_fr F I I := fun _ _ => rfl
theorem vb_fr.tr {F : Nat → Prop} {I I' I'' : Nat → Nat → Int32} (h : vb_fr F I I') (h' : vb_fr F I' I'') : vb_fr F I I'' := fun a ha => (h' a ha).trans (h a ha)
theorem vb_fr.up {F : Nat → Prop} {I I' : Nat → Nat → Int32} {a j : Nat} {v : Int32} (h : vb_fr F I I') (ha : F a) : vb_fr F I (mm_up I' a j v) := by
  intro c hc
  have : c ≠ a := fun e => hc (e ▸ ha)
  rw [← h c hc]
  funext i
  simp only [mm_up, if_neg this]
theorem vb_fr.mono {F F' : Nat → Prop} {I I' : Nat → Nat → Int32} (h : vb_fr F I I') (hF : ∀ a, F a → F' a) : vb_fr F' I I' := fun a ha => h a (fun e => ha (hF a e))
theorem vb_up1 {α : Type} (f : Nat → Nat → α) (a i : Nat) (v : α) : mm_up f a i v a i = v := by simp only [mm_up, if_true]
theorem vb_up2 {α : Type} (f : Nat → Nat → α) {a i c j : Nat} (v : α) (h : ¬ (c = a ∧ j = i)) : mm_up f a i v c j = f c j := by
  simp only [mm_up]
  by_cases h1 : c = a
  · rw [if_pos h1, if_neg (fun e => h ⟨h1, e⟩)]
  · rw [if_neg h1]
theorem vb_up3 {α : Type} (f : Nat → Nat → α) {a i c : Nat} (v : α) (h : c ≠ a) : mm_up f a i v c = f c := by
  funext j; simp only [mm_up, if_neg h]
