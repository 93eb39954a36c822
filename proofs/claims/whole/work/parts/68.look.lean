/-! LOOKING AHEAD -/
def vm_ld (ℓ : vb_L) (x : vb_X) (t k : Nat) : Int32 := vb_lead ℓ k (vx_s x t) (vx_s x (1 - t)) (vx_f x t) (vx_f x (1 - t)) (vb_i (vx_e x))
def vm_af (ℓ : vb_L) (x : vb_X) (t m k : Nat) : Int32 := -(vm_ld ℓ (vx_doT ℓ x t m) (1 - t) k)
def vm_al (ℓ : vb_L) (x : vb_X) (t i : Nat) : List Nat := (List.range' i (101 - i)).filter (vm_may ℓ x t)
def vm_pk (g : Nat → Int32) (l : List Nat) : Nat × Int32 := match l with
  | [] => (100, 0)
  | m :: l => vx_pick g l (m, g m)
def vm_PK (ℓ : vb_L) (x : vb_X) (t k : Nat) : Nat × Int32 := vm_pk (fun m => vm_af ℓ x t m k) (vm_al ℓ x t 0)
def vm_po (g : Nat → Int32) (l : List Nat) (st : Option (Nat × Int32)) : Option (Nat × Int32) := match st with
  | none => (match l with
    | [] => none
    | m :: l => some (vx_pick g l (m, g m)))
  | some p => some (vx_pick g l p)
def vm_lf (b : Nat) (I I' : Nat → Nat → Int32) : Prop := (∀ a, ¬ (a = 60 ∨ a = 76 ∨ a = 78 ∨ a = 79) → I' a = I a) ∧ (∀ s, s ≠ 43 → I' 60 s = I 60 s) ∧ ∀ j, j < b + 46 → I' 76 j = I 76 j
section
variable {ℓ : vb_L} {x : vb_X} {t b : Nat} {I I' I'' : Nat → Nat → Int32}
theorem vm_lf.rf : vm_lf b I I := ⟨fun _ _ => rfl, fun _ _ => rfl, fun _ _ => rfl⟩
theorem vm_lf.tr (h : vm_lf b I I') (h' : vm_lf b I' I'') : vm_lf b I I'' := ⟨fun a ha => (h'.1 a ha).trans (h.1 a ha), fun s a => (h'.2.1 s a).trans (h.2.1 s a), fun j hj => (h'.2.2 j hj).trans (h.2.2 j hj)⟩
theorem vm_lf.of8 (h : vb_fr vm_s8 I I') : vm_lf b I I' := ⟨fun a ha => h a (by simp only [vm_s8]; omega), fun s _ => by rw [h 60 (by simp only [vm_s8]; decide)], fun j _ => by rw [h 76 (by simp only [vm_s8]; decide)]⟩
theorem vm_lf.of76 (h : vb_fr (fun a => a = 76) I I') (h2 : ∀ j, j < b + 46 → I' 76 j = I 76 j) : vm_lf b I I' := ⟨fun a ha => h a (by omega), fun s _ => by rw [h 60 (by decide)], h2⟩
theorem vm_lf.bm (v : Int32) : vm_lf b I (mm_up I 60 43 v) := ⟨fun a ha => vb_up3 _ _ (by omega), fun s h => vb_up2 _ _ (by omega), fun j _ => by rw [vb_up3 _ _ (by decide)]⟩
theorem vm_lf.le {b' : Nat} (h : vm_lf b' I I') (hb : b ≤ b') : vm_lf b I I' := ⟨h.1, h.2.1, fun j hj => h.2.2 j (by omega)⟩
theorem vm_lf.qf (h : vm_lf b I I') : vm_qf I I' := ⟨fun a ha => h.1 a (by omega), fun s _ h2 _ => h.2.1 s h2, fun j hj => h.2.2 j (by omega)⟩
theorem vm_LD.lf (h : vm_LD ℓ I) (hf : vm_lf b I I') : vm_LD ℓ I' := h.k2 (fun s h1 h2 => hf.2.1 s (by omega)) (fun a h1 h2 => hf.1 a (by omega))
theorem vm_row.lf (h : vm_row ℓ (I 76) b x t) (hn : vb_n ℓ ≤ 10) (hf : vm_lf b I I') : vm_row ℓ (I' 76) b x t := h.kp hn (fun j _ hj => hf.2.2 j hj)
theorem vm_al_cons {i : Nat} (hi : i ≤ 100) : vm_al ℓ x t i = if vm_may ℓ x t i then i :: vm_al ℓ x t (i + 1) else vm_al ℓ x t (i + 1) := by
  simp only [vm_al]
  rw [show 101 - i = (101 - (i + 1)) + 1 by omega, List.range'_succ, List.filter_cons]
theorem vm_al_end {i : Nat} (hi : 101 ≤ i) : vm_al ℓ x t i = [] := by
  simp only [vm_al]
  rw [show 101 - i = 0 by omega]; rfl
theorem vm_al0 : vm_al ℓ x t 0 = vx_msT ℓ x t ++ [100] := by
  have h1 : (List.range' 0 100).filter (vm_may ℓ x t) = (List.range' 0 100).filter (vb_q ℓ (vx_s x t) (vx_s x (1 - t)) (vb_i (vx_e x))) := by
    refine List.filter_congr (fun m hm => ?_)
    have : m < 100 := by
      rw [List.mem_range'] at hm
      obtain ⟨i, h1, h2⟩ := hm; omega
    rw [vm_may, decide_eq_false (by omega), Bool.false_or]
  have h2 : vx_msT ℓ x t = (List.range' 0 100).filter (vb_q ℓ (vx_s x t) (vx_s x (1 - t)) (vb_i (vx_e x))) := by rw [vx_msT, vb_ms, vb_rs]
  have h3 : [100].filter (vm_may ℓ x t) = [100] := by
    rw [List.filter_cons, if_pos (by rw [vm_may, decide_eq_true rfl]; rfl)]; rfl
  rw [vm_al, show 101 - 0 = 100 + 1 from rfl, List.range'_concat, List.filter_append, h1, h2]
  exact congrArg (fun z => _ ++ z) h3
theorem vm_may_ok1 (hn : vb_n ℓ ≤ 10) (hli : vl_inv ℓ) (hsj : vx_dj (vx_s x)) (ht : t < 2) {m : Nat} (hm : m ≤ 100) (h : vm_may ℓ x t m = true) : vm_ok1 ℓ x t m := by
  by_cases h1 : m = 100
  · exact Or.inl h1
  · right
    rw [vm_may, decide_eq_false h1, Bool.false_or] at h
    obtain ⟨q1, q2, q3, q4⟩ := vb_q_in h
    refine ⟨by omega, q1, q2, ?_, (vx_in_eq hsj ht).mpr q3⟩
    intro e
    rw [vb_law, vb_has_set _ (by omega)] at q4
    simp only [Bool.and_eq_true] at q4
    rw [← e, (hli _ _ q1 q1).2] at q4
    exact absurd q4.2.1 (by decide)
theorem vm_ok1.mod {m : Nat} (h : vm_ok1 ℓ x t m) : m = 100 ∨ m % 10 < vb_n ℓ := by
  rcases h with h | ⟨_, _, h, _⟩
  · exact Or.inl h
  · exact Or.inr h
theorem vm_af_e (m : Nat) : vx_e (vx_doT ℓ x t m) = vx_e x + 1 := by
  simp only [vx_doT, vx_end_e]; split <;> rfl
theorem vm_doT_s (m j : Nat) : vx_s (vx_doT ℓ x t m) j = if m = 100 then vx_s x j else vx_s (vx_bring x t (m / 10) (m % 10)) j := by
  simp only [vx_doT, vx_end_s]; split <;> rfl
theorem vm_doT_f (m j : Nat) : vx_f (vx_doT ℓ x t m) j = if m = 100 then vx_f x j else vx_f (vx_bring x t (m / 10) (m % 10)) j := by
  simp only [vx_doT, vx_end_f]; split <;> rfl
/-- both ways of saying what is left behind a move -/
theorem vm_af_eq (ht : t < 2) (m k : Nat) : q_la ℓ x t m k = vm_af ℓ x t m k := by
  have e1 : 1 - (1 - t) = t := by omega
  simp only [q_la, vm_af, vm_ld, vm_af_e, vm_doT_s, vm_doT_f, e1]
  by_cases h : m = 100
  · rw [if_pos h]; simp only [if_pos h]
  · rw [if_neg h]; simp only [if_neg h]
    have a1 : vx_s (vx_bring x t (m / 10) (m % 10)) (1 - t) = vx_s x (1 - t) &&& ~~~ vb_bit (m % 10) := if_neg (by omega)
    have a2 : vx_s (vx_bring x t (m / 10) (m % 10)) t = vb_mvd (vx_s x t) (m / 10) (m % 10) := if_pos rfl
    have a3 : vx_f (vx_bring x t (m / 10) (m % 10)) (1 - t) = vx_f x (1 - t) &&& ~~~ vb_bit (m % 10) := if_neg (by omega)
    have a4 : vx_f (vx_bring x t (m / 10) (m % 10)) t = vx_f x t ||| vb_bit (m % 10) := if_pos rfl
    rw [a1, a2, a3, a4]
theorem vb_lead_s (k : Nat) (own foe of ff ev : Int32) : vb_lead ℓ (k + 1) own foe of ff ev = (vb_ms ℓ own foe ev).foldl (fun a m => vb_mx a (-(vb_lead ℓ k (foe &&& ~~~ vb_bit (m % 10)) (vb_mvd own (m / 10) (m % 10)) (ff &&& ~~~ vb_bit (m % 10)) (of ||| vb_bit (m % 10)) (ev + vb_i 1)))) (-(vb_lead ℓ k foe own ff of (ev + vb_i 1))) := by rw [vb_lead]
theorem vb_foldl_cg {f g : Int32 → Nat → Int32} {l : List Nat} (h : ∀ a m, m ∈ l → f a m = g a m) : ∀ a, l.foldl f a = l.foldl g a := by
  induction l with
  | nil => intro a; rfl
  | cons m l ih =>
    intro a
    rw [List.foldl_cons, List.foldl_cons, h a m List.mem_cons_self]
    exact ih (fun a m' hm => h a m' (List.mem_cons_of_mem _ hm)) _
theorem vm_af0 (ht : t < 2) (k : Nat) : vm_af ℓ x t 100 k = -(vb_lead ℓ k (vx_s x (1 - t)) (vx_s x t) (vx_f x (1 - t)) (vx_f x t) (vb_i (vx_e x) + vb_i 1)) := by
  rw [← vm_af_eq ht, q_la, if_pos rfl, vb_add]
theorem vm_af1 (ht : t < 2) {m : Nat} (hm : m ≠ 100) (k : Nat) : vm_af ℓ x t m k = -(vb_lead ℓ k (vx_s x (1 - t) &&& ~~~ vb_bit (m % 10)) (vb_mvd (vx_s x t) (m / 10) (m % 10)) (vx_f x (1 - t) &&& ~~~ vb_bit (m % 10)) (vx_f x t ||| vb_bit (m % 10)) (vb_i (vx_e x) + vb_i 1)) := by
  rw [← vm_af_eq ht, q_la, if_neg hm, vb_add]
theorem vm_afF (ht : t < 2) (k : Nat) : ∀ (l : List Nat) (a : Int32), (∀ m, m ∈ l → m ≠ 100) → l.foldl (fun a m => vb_mx a (-(vb_lead ℓ k (vx_s x (1 - t) &&& ~~~ vb_bit (m % 10)) (vb_mvd (vx_s x t) (m / 10) (m % 10)) (vx_f x (1 - t) &&& ~~~ vb_bit (m % 10)) (vx_f x t ||| vb_bit (m % 10)) (vb_i (vx_e x) + vb_i 1)))) a = l.foldl (fun a m => vb_mx a (vm_af ℓ x t m k)) a := by
  intro l a hm
  exact vb_foldl_cg (fun a m h => congrArg (vb_mx a) (vm_af1 ht (hm m h) k).symm) a
theorem vm_msT_ne {m : Nat} (h : m ∈ vx_msT ℓ x t) : m ≠ 100 := by
  rw [vx_msT] at h
  have := (vb_ms_lt h).1
  omega
theorem vm_ld_s (ht : t < 2) (k : Nat) : vm_ld ℓ x t (k + 1) = (vx_msT ℓ x t).foldl (fun a m => vb_mx a (vm_af ℓ x t m k)) (vm_af ℓ x t 100 k) := by
  rw [vm_af0 ht, ← vm_afF ht k _ _ (fun m h => vm_msT_ne h), vm_ld, vb_lead_s, vx_msT]
end
/-! the greatest -/
theorem vb_mx_l (a b : Int32) : ¬ vb_mx a b < a ∧ ¬ vb_mx a b < b ∧ (vb_mx a b = a ∨ vb_mx a b = b) := by
  simp only [vb_mx]
  split
  · rename_i h
    refine ⟨?_, ?_, Or.inr rfl⟩
    · rw [Int32.lt_iff_toInt_lt] at h ⊢; omega
    · exact (fun h => Int32.lt_irrefl h)
  · rename_i h
    exact ⟨(fun h => Int32.lt_irrefl h), h, Or.inl rfl⟩
theorem vb_max_u {a b : Int32} (h1 : ¬ a < b) (h2 : ¬ b < a) : a = b := by
  apply Int32.toInt_inj.mp
  rw [Int32.lt_iff_toInt_lt] at h1 h2; omega
theorem vb_nlt_tr {a b c : Int32} (h1 : ¬ a < b) (h2 : ¬ b < c) : ¬ a < c := by
  rw [Int32.lt_iff_toInt_lt] at *; omega
theorem vb_fmx (g : Nat → Int32) : ∀ (l : List Nat) (a : Int32), (¬ l.foldl (fun a m => vb_mx a (g m)) a < a) ∧ (∀ m, m ∈ l → ¬ l.foldl (fun a m => vb_mx a (g m)) a < g m) ∧ (l.foldl (fun a m => vb_mx a (g m)) a = a ∨ ∃ m, m ∈ l ∧ l.foldl (fun a m => vb_mx a (g m)) a = g m) := by
  intro l
  induction l with
  | nil => intro a; exact ⟨(fun h => Int32.lt_irrefl h), fun m h => by simp at h, Or.inl rfl⟩
  | cons m l ih =>
    intro a
    rw [List.foldl_cons]
    obtain ⟨i1, i2, i3⟩ := ih (vb_mx a (g m))
    obtain ⟨x1, x2, x3⟩ := vb_mx_l a (g m)
    refine ⟨vb_nlt_tr i1 x1, ?_, ?_⟩
    · intro m' hm
      rcases List.mem_cons.mp hm with h | h
      · subst h; exact vb_nlt_tr i1 x2
      · exact i2 m' h
    · rcases i3 with h | ⟨m', h1, h2⟩
      · rcases x3 with h3 | h3
        · left; rw [h, h3]
        · right; exact ⟨m, List.mem_cons_self, by rw [h, h3]⟩
      · right; exact ⟨m', List.mem_cons_of_mem _ h1, h2⟩
theorem vb_pkmx (g : Nat → Int32) : ∀ (l : List Nat) (p : Nat × Int32), (¬ (vx_pick g l p).2 < p.2) ∧ (∀ m, m ∈ l → ¬ (vx_pick g l p).2 < g m) ∧ ((vx_pick g l p).2 = p.2 ∨ ∃ m, m ∈ l ∧ (vx_pick g l p).2 = g m) := by
  intro l
  induction l with
  | nil => intro p; exact ⟨(fun h => Int32.lt_irrefl h), fun m h => by simp at h, Or.inl rfl⟩
  | cons m l ih =>
    intro p
    have e : vx_pick g (m :: l) p = vx_pick g l (if p.2 < g m then (m, g m) else p) := rfl
    rw [e]
    have hp : (if p.2 < g m then (m, g m) else p).2 = vb_mx p.2 (g m) := by simp only [vb_mx]; split <;> rfl
    obtain ⟨i1, i2, i3⟩ := ih (if p.2 < g m then (m, g m) else p)
    rw [hp] at i1 i3
    obtain ⟨x1, x2, x3⟩ := vb_mx_l p.2 (g m)
    refine ⟨vb_nlt_tr i1 x1, ?_, ?_⟩
    · intro m' hm
      rcases List.mem_cons.mp hm with h | h
      · subst h; exact vb_nlt_tr i1 x2
      · exact i2 m' h
    · rcases i3 with h | ⟨m', h1, h2⟩
      · rcases x3 with h3 | h3
        · left; rw [h, h3]
        · right; exact ⟨m, List.mem_cons_self, by rw [h, h3]⟩
      · right; exact ⟨m', List.mem_cons_of_mem _ h1, h2⟩
theorem vm_pk_mx (g : Nat → Int32) (l : List Nat) (c : Nat) : (vm_pk g (l ++ [c])).2 = l.foldl (fun a m => vb_mx a (g m)) (g c) := by
  obtain ⟨f1, f2, f3⟩ := vb_fmx g l (g c)
  cases l with
  | nil => rfl
  | cons m l =>
    have e : vm_pk g ((m :: l) ++ [c]) = vx_pick g (l ++ [c]) (m, g m) := rfl
    rw [e]
    obtain ⟨p1, p2, p3⟩ := vb_pkmx g (l ++ [c]) (m, g m)
    apply vb_max_u
    · rcases f3 with h | ⟨m', h1, h2⟩
      · rw [h]; exact p2 c (by simp)
      · rw [h2]
        rcases List.mem_cons.mp h1 with h | h
        · subst h; exact p1
        · exact p2 m' (by simp [h])
    · rcases p3 with h | ⟨m', h1, h2⟩
      · rw [h]; exact f2 m List.mem_cons_self
      · rw [h2]
        rcases List.mem_append.mp h1 with h | h
        · exact f2 m' (List.mem_cons_of_mem _ h)
        · have : m' = c := by simpa using h
          subst this; exact f1
theorem vm_PK2 {ℓ : vb_L} {x : vb_X} {t : Nat} (ht : t < 2) (k : Nat) : (vm_PK ℓ x t k).2 = vm_ld ℓ x t (k + 1) := by
  rw [vm_PK, vm_al0, vm_pk_mx, vm_ld_s ht]
theorem vm_PK1 {ℓ : vb_L} {x : vb_X} (k : Nat) : (vm_PK ℓ x (vx_tn x) k).1 = q_bm ℓ x k := by
  have hg : (fun m => vm_af ℓ x (vx_tn x) m k) = fun m => q_la ℓ x (vx_tn x) m k := by
    funext m; exact (vm_af_eq (vx_t2 x) m k).symm
  rw [vm_PK, vm_al0, hg, q_bm]
  show (vm_pk _ (vx_ms ℓ x ++ [100])).1 = _
  cases vx_ms ℓ x with
  | nil => rfl
  | cons m l =>
    show (vx_pick _ (l ++ [100]) _).1 = _
    simp only
    rw [vx_pick, List.foldl_append]
    show (if _ < _ then _ else _ : Nat × Int32).1 = _
    rw [← vx_pick]
    split <;> rfl
theorem vm_po_s {g : Nat → Int32} {m : Nat} {l : List Nat} (p : Nat × Int32) : vm_po g (m :: l) (some p) = vm_po g l (some (if p.2 < g m then (m, g m) else p)) := rfl
theorem vm_po_n {g : Nat → Int32} {m : Nat} {l : List Nat} : vm_po g (m :: l) none = vm_po g l (some (m, g m)) := rfl
theorem vm_po_PK {ℓ : vb_L} {x : vb_X} {t k : Nat} : vm_po (fun m => vm_af ℓ x t m k) (vm_al ℓ x t 0) none = some (vm_PK ℓ x t k) := by
  rw [vm_PK, vm_al0]
  cases vx_msT ℓ x t with
  | nil => rfl
  | cons m l => rfl
