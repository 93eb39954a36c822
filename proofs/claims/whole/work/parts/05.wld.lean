/-! THE WORLD OF A SMALL MEMORY on the machine's heap: addresses by σ, the array classes by kA -/
def mm_tr (σ : Nat → Nat) (v : Value) : Value := match v with
  | .ref a => .ref (σ a)
  | v => v
def mm_fv (σ : Nat → Nat) (f : Nat) (i : Int32) (p : Nat) (j : Int64) : Value := if f ≤ 1 then .int i else if f = 2 then mm_tr σ (mm_rv p) else .long j
def mm_cell (σ : Nat → Nat) (kA : Nat → ClassId) (μ : mm_M) (k : Nat) (q : Nat × Nat) : va_E :=
  if q.1 = 100 ∨ q.1 = 101 then .inl (kA q.1, q.2, .inl (μ.1 k)) else if q.1 = 102 then .inl (kA 102, q.2, .inr (.inl (μ.2.2.1 k)))
  else .inr (q.1, (List.range q.2).map (fun i => mm_fv σ (mm_fk q.1 i) (μ.1 k i) (μ.2.1 k i) (μ.2.2.1 k i)))
def mm_wld (σ : Nat → Nat) (kA : Nat → ClassId) (μ : mm_M) : va_W := μ.2.2.2.1.mapIdx (fun k q => (σ k, mm_cell σ kA μ k q))
theorem mm_wld_get (σ : Nat → Nat) (kA : Nat → ClassId) (μ : mm_M) (a : Nat) : (mm_wld σ kA μ)[a]? = (μ.2.2.2.1[a]?).map (fun q => (σ a, mm_cell σ kA μ a q)) := by
  simp [mm_wld]
theorem mm_wld_at {σ : Nat → Nat} {kA : Nat → ClassId} {μ : mm_M} {a : Nat} {q : Nat × Nat} (h : μ.2.2.2.1[a]? = some q) : (mm_wld σ kA μ)[a]? = some (σ a, mm_cell σ kA μ a q) := by
  rw [mm_wld_get, h]; rfl
theorem mm_cat_tr (σ : Nat → Nat) (v : Value) : (mm_tr σ v).category = v.category := by cases v <;> rfl
theorem mm_cats_tr (σ : Nat → Nat) (st : List Value) : ((st.map (mm_tr σ)).map fun v => v.category) = st.map fun v => v.category := by
  simp [List.map_map, Function.comp_def, mm_cat_tr]
/-- a place of an int array is written -/
theorem mm_wld_seti {σ : Nat → Nat} {kA : Nat → ClassId} {I : Nat → Nat → Int32} {P : Nat → Nat → Nat} {J : Nat → Nat → Int64} {S : List (Nat × Nat)} {nc ns a t n i : Nat} {v : Int32} (h : S[a]? = some (t, n)) (ht : t = 100 ∨ t = 101) :
    (mm_wld σ kA (I, P, J, S, nc, ns)).set a (σ a, .inl (kA t, n, .inl (upd (I a) i v))) = mm_wld σ kA (mm_up I a i v, P, J, S, nc, ns) := by
  apply List.ext_getElem?
  intro b
  have hl : a < S.length := (List.getElem?_eq_some_iff.mp h).1
  rw [List.getElem?_set]
  by_cases hb : a = b
  · subst hb
    rw [if_pos rfl, if_pos (by simpa [mm_wld] using hl), mm_wld_at (μ := (mm_up I a i v, P, J, S, nc, ns)) h]
    simp only [mm_cell, if_pos ht]
    congr 6
    funext j
    simp [upd, mm_up]
  · rw [if_neg hb, mm_wld_get, mm_wld_get]
    congr 1
    funext q
    have e : mm_up I a i v b = I b := by funext j; simp [mm_up, Ne.symm hb]
    simp only [mm_cell, e]
/-- a place of a long array is written -/
theorem mm_wld_setl {σ : Nat → Nat} {kA : Nat → ClassId} {I : Nat → Nat → Int32} {P : Nat → Nat → Nat} {J : Nat → Nat → Int64} {S : List (Nat × Nat)} {nc ns a n i : Nat} {v : Int64} (h : S[a]? = some (102, n)) :
    (mm_wld σ kA (I, P, J, S, nc, ns)).set a (σ a, .inl (kA 102, n, .inr (.inl (vp_updL (J a) i v)))) = mm_wld σ kA (I, P, mm_up J a i v, S, nc, ns) := by
  apply List.ext_getElem?
  intro b
  have hl : a < S.length := (List.getElem?_eq_some_iff.mp h).1
  rw [List.getElem?_set]
  by_cases hb : a = b
  · subst hb
    rw [if_pos rfl, if_pos (by simpa [mm_wld] using hl), mm_wld_at (μ := (I, P, mm_up J a i v, S, nc, ns)) h]
    simp only [mm_cell]
    rw [if_neg (by decide), if_pos trivial]
    congr 7
    funext j
    simp [vp_updL, mm_up]
  · rw [if_neg hb, mm_wld_get, mm_wld_get]
    congr 1
    funext q
    have e : mm_up J a i v b = J b := by funext j; simp [mm_up, Ne.symm hb]
    simp only [mm_cell, e]
/-- a whole int array is written -/
theorem mm_wld_seta {σ : Nat → Nat} {kA : Nat → ClassId} {I : Nat → Nat → Int32} {P : Nat → Nat → Nat} {J : Nat → Nat → Int64} {S : List (Nat × Nat)} {nc ns a t n : Nat} {f : Nat → Int32} (h : S[a]? = some (t, n)) (ht : t = 100 ∨ t = 101) :
    (mm_wld σ kA (I, P, J, S, nc, ns)).set a (σ a, .inl (kA t, n, .inl f)) = mm_wld σ kA ((fun c => if c = a then f else I c), P, J, S, nc, ns) := by
  apply List.ext_getElem?
  intro b
  have hl : a < S.length := (List.getElem?_eq_some_iff.mp h).1
  rw [List.getElem?_set]
  by_cases hb : a = b
  · subst hb
    rw [if_pos rfl, if_pos (by simpa [mm_wld] using hl), mm_wld_at (μ := (_, P, J, S, nc, ns)) h]
    simp only [mm_cell, if_pos ht, if_true]
  · rw [if_neg hb, mm_wld_get, mm_wld_get]
    congr 1
    funext q
    simp only [mm_cell, if_neg (Ne.symm hb)]
/-- the fields of an object, one written -/
theorem mm_fs_set {N k : Nat} {f g : Nat → Value} {v : Value} (hk : k < N) (hv : g k = v) (ho : ∀ j, j ≠ k → g j = f j) : ((List.range N).map f).set k v = (List.range N).map g := by
  apply List.ext_getElem?
  intro b
  rw [List.getElem?_set]
  by_cases hb : k = b
  · subst hb
    simp [hk, hv]
  · rw [if_neg hb]
    by_cases hN : b < N
    · simp [hN, ho b (Ne.symm hb)]
    · simp [hN]
theorem mm_wld_setf {σ : Nat → Nat} {kA : Nat → ClassId} {μ μ' : mm_M} {a ci n k : Nat} {v : Value} (hS : μ'.2.2.2.1 = μ.2.2.2.1) (h : μ.2.2.2.1[a]? = some (ci, n)) (hc : ci < 100) (hk : k < n)
    (hv : mm_fv σ (mm_fk ci k) (μ'.1 a k) (μ'.2.1 a k) (μ'.2.2.1 a k) = v) (ho : ∀ j, j ≠ k → μ'.1 a j = μ.1 a j ∧ μ'.2.1 a j = μ.2.1 a j ∧ μ'.2.2.1 a j = μ.2.2.1 a j) (hb : ∀ b, b ≠ a → μ'.1 b = μ.1 b ∧ μ'.2.1 b = μ.2.1 b ∧ μ'.2.2.1 b = μ.2.2.1 b) :
    (mm_wld σ kA μ).set a (σ a, .inr (ci, ((List.range n).map (fun i => mm_fv σ (mm_fk ci i) (μ.1 a i) (μ.2.1 a i) (μ.2.2.1 a i))).set k v)) = mm_wld σ kA μ' := by
  apply List.ext_getElem?
  intro b
  have hl : a < μ.2.2.2.1.length := (List.getElem?_eq_some_iff.mp h).1
  rw [List.getElem?_set]
  by_cases hb' : a = b
  · subst hb'
    rw [if_pos rfl, if_pos (by simpa [mm_wld] using hl), mm_wld_at (μ := μ') (by rw [hS]; exact h)]
    simp only [mm_cell]
    rw [if_neg (by omega), if_neg (by omega)]
    congr 4
    exact mm_fs_set hk hv (fun j hj => by obtain ⟨h1, h2, h3⟩ := ho j hj; simp only [h1, h2, h3])
  · rw [if_neg hb', mm_wld_get, mm_wld_get, hS]
    congr 1
    funext q
    obtain ⟨h1, h2, h3⟩ := hb b (Ne.symm hb')
    simp only [mm_cell, h1, h2, h3]
/-- addresses that no new cell takes: n cells before, n' behind -/
def mm_ag (n n' : Nat) (σ σ' : Nat → Nat) : Prop := ∀ a, a < n ∨ n' ≤ a → σ' a = σ a
theorem mm_ag.rf {n n' : Nat} {σ : Nat → Nat} : mm_ag n n' σ σ := fun _ _ => rfl
theorem mm_ag.tr {n n1 n2 : Nat} {σ σ' σ'' : Nat → Nat} (h : mm_ag n n1 σ σ') (h' : mm_ag n1 n2 σ' σ'') (h01 : n ≤ n1) (h12 : n1 ≤ n2) : mm_ag n n2 σ σ'' := fun a ha => by
  rw [h' a (by omega), h a (by omega)]
theorem mm_ag.eq {n : Nat} {σ σ' : Nat → Nat} (h : mm_ag n n σ σ') : σ' = σ := funext fun a => h a (by omega)
theorem mm_tr_ok {n n' : Nat} {σ σ' : Nat → Nat} (h : mm_ag n n' σ σ') (hn : n' ≤ mm_SC) {v : Value} (hv : mm_okv n v = true) : mm_tr σ' v = mm_tr σ v := by
  cases v with
  | ref a =>
    simp only [mm_okv, Bool.or_eq_true, decide_eq_true_eq] at hv
    simp only [mm_tr, h a (hv.imp id (fun z => Nat.le_trans hn z))]
  | _ => rfl
theorem mm_trs_ok {n n' : Nat} {σ σ' : Nat → Nat} (h : mm_ag n n' σ σ') (hn : n' ≤ mm_SC) {st : List Value} (hv : st.all (mm_okv n) = true) : st.map (mm_tr σ') = st.map (mm_tr σ) := by
  apply List.map_congr_left
  intro v hm
  exact mm_tr_ok h hn (List.all_eq_true.mp hv v hm)
/-! ===== locals ===== -/
def mm_LV (σ : Nat → Nat) (ls : List Value) (lj : Array Slot) : Prop := lj.size = ls.length ∧ lv_wf lj ∧ ∀ (i : Nat) (v : Value), ls[i]? = some v → v ≠ .null → lj[i]? = some (.val (mm_tr σ v))
def mm_as (σ : Nat → Nat) (ls : List Value) : List (Nat × Value) := (List.range ls.length).filterMap fun i => match ls[i]? with
  | some v => if v = .null then none else some (i, mm_tr σ v)
  | none => none
theorem mm_as_mem {σ : Nat → Nat} {ls : List Value} {q : Nat × Value} : q ∈ mm_as σ ls ↔ ∃ v, ls[q.1]? = some v ∧ v ≠ .null ∧ q.2 = mm_tr σ v := by
  constructor
  · intro h
    obtain ⟨i, -, hi⟩ := List.mem_filterMap.mp h
    split at hi
    · rename_i v hv
      split at hi
      · cases hi
      · rename_i hn
        cases hi
        exact ⟨v, hv, hn, rfl⟩
    · cases hi
  · rintro ⟨v, h1, h2, h3⟩
    refine List.mem_filterMap.mpr ⟨q.1, List.mem_range.mpr (List.getElem?_eq_some_iff.mp h1).1, ?_⟩
    rw [h1]
    simp only [if_neg h2]
    rw [← h3]
theorem mm_LV.has {σ : Nat → Nat} {ls : List Value} {lj : Array Slot} (h : mm_LV σ ls lj) : lv_has lj ls.length (mm_as σ ls) :=
  ⟨h.1, h.2.1, fun q hq => by obtain ⟨v, h1, h2, h3⟩ := mm_as_mem.mp hq; rw [h3]; exact h.2.2 _ _ h1 h2⟩
theorem mm_kill_len (i : Nat) (ls : List Value) : (mm_kill i ls).length = ls.length := by
  unfold mm_kill
  split
  · rfl
  · split
    · split <;> simp
    · rfl
theorem mm_kill_get {i j : Nat} {ls : List Value} {v : Value} (h : (mm_kill i ls)[j]? = some v) (hv : v ≠ .null) : ls[j]? = some v ∧ ¬ (j + 1 = i ∧ v.category = 2) := by
  unfold mm_kill at h
  split at h
  · exact ⟨h, by omega⟩
  · rename_i _ i'
    split at h
    · rename_i w hw
      split at h
      · rename_i hc
        rw [List.getElem?_set] at h
        split at h
        · split at h
          · cases h; exact absurd rfl hv
          · cases h
        · rename_i hne
          exact ⟨h, by omega⟩
      · rename_i hc
        refine ⟨h, fun ⟨e, hc2⟩ => hc ?_⟩
        have e2 : j = i' := by omega
        subst e2
        rw [hw] at h
        cases h
        exact hc2
    · rename_i hw
      refine ⟨h, fun ⟨e, hc2⟩ => ?_⟩
      have e2 : j = i' := by omega
      subst e2
      rw [hw] at h
      cases h
theorem mm_LV.st1 {σ : Nat → Nat} {ls : List Value} {i : Nat} {v : Value} {lj' : Array Slot} (h' : lv_has lj' ls.length ((i, mm_tr σ v) :: (mm_as σ ls).filter (fun q => !(q.1 == i) && !(q.1 + 1 == i && q.2.category == 2)))) : mm_LV σ (mm_s1 i v ls) lj' := by
  refine ⟨by rw [h'.1]; simp [mm_s1, mm_kill_len], h'.2.1, fun j w hj hw => ?_⟩
  unfold mm_s1 at hj
  rw [List.getElem?_set] at hj
  split at hj
  · rename_i e
    subst e
    split at hj
    · cases hj
      exact h'.2.2 _ List.mem_cons_self
    · cases hj
  · rename_i hne
    obtain ⟨h1, h2⟩ := mm_kill_get hj hw
    refine h'.2.2 (j, mm_tr σ w) (List.mem_cons_of_mem _ (List.mem_filter.mpr ⟨mm_as_mem.mpr ⟨w, h1, hw, rfl⟩, ?_⟩))
    simp only [Bool.and_eq_true, Bool.not_eq_true', beq_eq_false_iff_ne, Bool.and_eq_false_iff, mm_cat_tr]
    exact ⟨fun e => hne e.symm, by
      by_cases e : j + 1 = i
      · exact Or.inr (fun hc => h2 ⟨e, hc⟩)
      · exact Or.inl e⟩
theorem mm_LV.st2 {σ : Nat → Nat} {ls : List Value} {i : Nat} {v : Value} {lj' : Array Slot} (h' : lv_has lj' ls.length ((i, mm_tr σ v) :: (mm_as σ ls).filter (fun q => !(q.1 == i) && (!(q.1 == i + 1) && !(q.1 + 1 == i && q.2.category == 2))))) : mm_LV σ (mm_s2 i v ls) lj' := by
  refine ⟨by rw [h'.1]; simp [mm_s2, mm_kill_len], h'.2.1, fun j w hj hw => ?_⟩
  unfold mm_s2 at hj
  rw [List.getElem?_set] at hj
  split at hj
  · split at hj
    · cases hj; exact absurd rfl hw
    · cases hj
  · rename_i hne1
    rw [List.getElem?_set] at hj
    split at hj
    · rename_i e
      subst e
      split at hj
      · cases hj
        exact h'.2.2 _ List.mem_cons_self
      · cases hj
    · rename_i hne
      obtain ⟨h1, h2⟩ := mm_kill_get hj hw
      refine h'.2.2 (j, mm_tr σ w) (List.mem_cons_of_mem _ (List.mem_filter.mpr ⟨mm_as_mem.mpr ⟨w, h1, hw, rfl⟩, ?_⟩))
      simp only [Bool.and_eq_true, Bool.not_eq_true', beq_eq_false_iff_ne, Bool.and_eq_false_iff, mm_cat_tr]
      exact ⟨fun e => hne e.symm, fun e => hne1 e.symm, by
        by_cases e : j + 1 = i
        · exact Or.inr (fun hc => h2 ⟨e, hc⟩)
        · exact Or.inl e⟩
/-- a store of which nothing is kept -/
theorem mm_LV.st0 {σ : Nat → Nat} {ls : List Value} {i : Nat} {w : Value} {lj' : Array Slot} (h' : lv_has lj' ls.length ((i, w) :: (mm_as σ ls).filter (fun q => !(q.1 == i) && !(q.1 + 1 == i && q.2.category == 2)))) : mm_LV σ (mm_s1 i .null ls) lj' := by
  refine ⟨by rw [h'.1]; simp [mm_s1, mm_kill_len], h'.2.1, fun j w hj hw => ?_⟩
  unfold mm_s1 at hj
  rw [List.getElem?_set] at hj
  split at hj
  · split at hj
    · cases hj; exact absurd rfl hw
    · cases hj
  · rename_i hne
    obtain ⟨h1, h2⟩ := mm_kill_get hj hw
    refine h'.2.2 (j, mm_tr σ w) (List.mem_cons_of_mem _ (List.mem_filter.mpr ⟨mm_as_mem.mpr ⟨w, h1, hw, rfl⟩, ?_⟩))
    simp only [Bool.and_eq_true, Bool.not_eq_true', beq_eq_false_iff_ne, Bool.and_eq_false_iff, mm_cat_tr]
    exact ⟨fun e => hne e.symm, by
      by_cases e : j + 1 = i
      · exact Or.inr (fun hc => h2 ⟨e, hc⟩)
      · exact Or.inl e⟩
theorem mm_LV.re {n n' : Nat} {σ σ' : Nat → Nat} {ls : List Value} {lj : Array Slot} (h : mm_LV σ ls lj) (ha : mm_ag n n' σ σ') (hn : n' ≤ mm_SC) (hk : ls.all (mm_okv n) = true) : mm_LV σ' ls lj :=
  ⟨h.1, h.2.1, fun i v h1 h2 => by
    rw [mm_tr_ok ha hn (List.all_eq_true.mp hk v (List.mem_of_getElem? h1))]
    exact h.2.2 i v h1 h2⟩
theorem mm_ent1_len (vs : List Value) : (mm_ent1 vs).length = (lg_sl vs).length := by
  induction vs with
  | nil => rfl
  | cons v vs ih =>
    simp only [mm_ent1, lg_sl, List.flatMap_cons, List.length_append] at ih ⊢
    split <;> simp [ih, lg_sl] <;> omega
theorem mm_ent1_get (vs : List Value) : ∀ (b i : Nat) (v : Value), (mm_ent1 vs)[i]? = some v → v ≠ .null → (b + i, v) ∈ lv_args b vs := by
  induction vs with
  | nil => intro b i v h; simp [mm_ent1] at h
  | cons w vs ih =>
    intro b i v h hv
    simp only [mm_ent1] at h
    simp only [lv_args]
    split at h
    · rename_i hc
      match i, h with
      | 0, h => cases h; exact List.mem_cons_self
      | 1, h => cases h; exact absurd rfl hv
      | i + 2, h =>
        refine List.mem_cons_of_mem _ ?_
        rw [if_pos hc]
        have := ih (b + 2) i v (by simpa using h) hv
        rwa [show b + 2 + i = b + (i + 2) by omega] at this
    · rename_i hc
      match i, h with
      | 0, h => cases h; exact List.mem_cons_self
      | i + 1, h =>
        refine List.mem_cons_of_mem _ ?_
        rw [if_neg hc]
        have := ih (b + 1) i v (by simpa using h) hv
        rwa [show b + 1 + i = b + (i + 1) by omega] at this
theorem mm_args_map (σ : Nat → Nat) (vs : List Value) : ∀ b, lv_args b (vs.map (mm_tr σ)) = (lv_args b vs).map (fun q => (q.1, mm_tr σ q.2)) := by
  induction vs with
  | nil => intro b; rfl
  | cons v vs ih => intro b; simp only [List.map_cons, lv_args, mm_cat_tr, ih]
theorem mm_sl_len (σ : Nat → Nat) (vs : List Value) : (lg_sl (vs.map (mm_tr σ))).length = (lg_sl vs).length := by
  induction vs with
  | nil => rfl
  | cons v vs ih =>
    simp only [lg_sl, List.map_cons, List.flatMap_cons, List.length_append, mm_cat_tr] at ih ⊢
    rw [ih]
    split <;> rfl
/-- the locals at a method's entry -/
theorem mm_LV.entry {σ : Nat → Nat} {args : List Value} {mx : Nat} (h : (mm_ent1 args).length ≤ mx) {lj : Array Slot} (hl : lv_has lj mx (lv_args 0 (args.map (mm_tr σ)))) : mm_LV σ (mm_ent mx args) lj := by
  refine ⟨by rw [hl.1]; simp [mm_ent]; omega, hl.2.1, fun i v hi hv => ?_⟩
  unfold mm_ent at hi
  rw [List.getElem?_append] at hi
  split at hi
  · refine hl.2.2 (i, mm_tr σ v) ?_
    rw [mm_args_map]
    have := mm_ent1_get args 0 i v hi hv
    rw [Nat.zero_add] at this
    exact List.mem_map.mpr ⟨_, this, rfl⟩
  · have := List.eq_of_mem_replicate (List.mem_of_getElem? hi)
    exact absurd this hv
