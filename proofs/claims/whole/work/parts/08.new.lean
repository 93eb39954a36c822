/-! NEW CELLS; Object's constructor; constants -/
def mm_contains (w : Cond) : Bool := lw_tbl.contains w && goodWord w
theorem mm_TBc {w : Cond} (h : mm_contains w = true) : w ∈ mm_TB := by
  simp only [mm_contains, Bool.and_eq_true, List.contains_iff_mem] at h
  exact List.mem_filter.mpr h
def mm_cls2Ok (ci : Nat) (q : vw_C) : Bool := decide ((mm_fks.getD ci []).length = q.2.2) && (List.range q.2.2).all (fun j => mm_kt (mm_fk ci j) (mm_ty ci j)) && mm_contains (.instantiable q.1 q.2.2) && mm_contains (.initialized q.1) && decide (q.2.2 ≤ 60)
theorem mm_cls2_0 : mm_cls2Ok 0 (RX0, TX0, 3) = true := by decide +kernel
theorem mm_cls2_1 : mm_cls2Ok 1 (RX1, TX1, 3) = true := by decide +kernel
theorem mm_cls2_2 : mm_cls2Ok 2 (RX3, TX3, 10) = true := by decide +kernel
theorem mm_cls2_3 : mm_cls2Ok 3 (RX4, TX4, 6) = true := by decide +kernel
theorem mm_cls2_4 : mm_cls2Ok 4 (RX5, TX5, 8) = true := by decide +kernel
theorem mm_cls2_5 : mm_cls2Ok 5 (RX6, TX6, 6) = true := by decide +kernel
theorem mm_cls2_6 : mm_cls2Ok 6 (RX7, TX7, 3) = true := by decide +kernel
theorem mm_cls2_7 : mm_cls2Ok 7 (RX8, TX8, 16) = true := by decide +kernel
theorem mm_cls2_8 : mm_cls2Ok 8 (RX9, TX9, 55) = true := by decide +kernel
theorem mm_cls2 {ci : Nat} {q : vw_C} (h : vwCl[ci]? = some q) : mm_cls2Ok ci q = true := by
  match ci, h with
  | 0, h => cases h; exact mm_cls2_0
  | 1, h => cases h; exact mm_cls2_1
  | 2, h => cases h; exact mm_cls2_2
  | 3, h => cases h; exact mm_cls2_3
  | 4, h => cases h; exact mm_cls2_4
  | 5, h => cases h; exact mm_cls2_5
  | 6, h => cases h; exact mm_cls2_6
  | 7, h => cases h; exact mm_cls2_7
  | 8, h => cases h; exact mm_cls2_8
  | n + 9, h => simp [vwCl] at h
/-- the world with one cell more -/
theorem mm_wld_push {σ : Nat → Nat} {kA : Nat → ClassId} {μ : mm_M} {q : Nat} {sh : Nat × Nat} {c1 s1 : Nat} (hP : mm_okS μ.2.1 μ.2.2.2.1 = true) :
    mm_wld (fun x => if x = μ.2.2.2.1.length then q else σ x) kA ((fun c => if c = μ.2.2.2.1.length then (fun _ => 0) else μ.1 c), (fun c => if c = μ.2.2.2.1.length then (fun _ => mm_NU) else μ.2.1 c), (fun c => if c = μ.2.2.2.1.length then (fun _ => 0) else μ.2.2.1 c), μ.2.2.2.1 ++ [sh], c1, s1)
      = mm_wld σ kA μ ++ [(q, mm_cell σ kA ((fun _ _ => 0), (fun _ _ => mm_NU), (fun _ _ => 0), [], 0, 0) 0 sh)] := by
  simp only [mm_okS, mm_okP, Bool.and_eq_true, List.all_eq_true, List.mem_range, Bool.or_eq_true, decide_eq_true_eq] at hP
  obtain ⟨hP1, hP2⟩ := hP
  apply List.ext_getElem?
  intro b
  rw [mm_wld_get]
  simp only
  by_cases hb : b < μ.2.2.2.1.length
  · rw [List.getElem?_append_left hb, List.getElem?_append_left (by simpa [mm_wld] using hb), mm_wld_get]
    obtain ⟨z, hz⟩ : ∃ z, μ.2.2.2.1[b]? = some z := ⟨_, List.getElem?_eq_getElem hb⟩
    rw [hz]
    simp only [Option.map_some]
    have hne : b ≠ μ.2.2.2.1.length := by omega
    congr 1
    simp only [mm_cell, if_neg hne]
    split
    · rfl
    · split
      · rfl
      · rename_i h1 h2
        have hz60 : z.2 ≤ 60 := by
          rcases hP2 z (List.mem_of_getElem? hz) with h | h
          · exfalso
            rcases h with h | h | h
            · exact h1 (Or.inl h)
            · exact h1 (Or.inr h)
            · exact h2 h
          · exact h
        congr 3
        apply List.map_congr_left
        intro i hi
        have hi2 : i < z.2 := List.mem_range.mp hi
        simp only [mm_fv]
        split
        · rfl
        · split
          · rcases hP1 b hb i (by omega) with h | h
            · simp only [mm_rv]
              split
              · rfl
              · simp only [mm_tr]
                rw [if_neg (by omega)]
            · simp only [mm_rv, if_pos h, mm_tr]
          · rfl
  · have hl : (mm_wld σ kA μ).length = μ.2.2.2.1.length := by simp [mm_wld]
    by_cases hb2 : b = μ.2.2.2.1.length
    · subst hb2
      rw [List.getElem?_append_right (Nat.le_refl _), List.getElem?_append_right (by rw [hl]; exact Nat.le_refl _)]
      rw [hl]
      simp only [Nat.sub_self, List.getElem?_cons_zero, Option.map_some, if_true]
      congr 2
      simp only [mm_cell, if_true]
      split
      · rfl
      · split
        · rfl
        · congr 3
    · rw [List.getElem?_eq_none (by simp; omega), List.getElem?_eq_none (by simp [hl]; omega)]
      rfl
theorem mm_ag_push {σ : Nat → Nat} {n q : Nat} : mm_ag n (n + 1) σ (fun x => if x = n then q else σ x) := fun a ha => by
  have : a ≠ n := by omega
  simp only [if_neg this]
section NW
variable {p : Program} {l : Launch} {e : Env} {R : Room} {s : State} {m : MethodId} {args : Array Value} {below : List Frame} {meth : Method} {c : Code} {H : Heap} {locs : List Loc} {cells slots : Nat} {Q : State → Prop}
variable {cc : ByteArray} {pc : Nat} {lj : Array Slot} {σ : Nat → Nat} {kA : Nat → ClassId} {D : va_G} {A : Nat → Prop} {H0 : Heap} {own nm : String} {idx : Nat} {rest : List Value} {x : mm_I} {μ : mm_M} {a : Nat}
def mm_okn (own : String) (x : mm_I) (idx : Nat) : Bool := match vwCl[x.2.1]? with
  | some (C, _, _) => decide (lw_tbl[x.2.2.2.1]? = some (.classLink own idx C)) && goodWord (.classLink own idx C)
  | none => false
theorem mm_snew (hx : p.tables.exec = Jvm.exec) (hb : c.code = cc) (hown : s.vm.findClass own = some m.cls) (hts : ∀ w ∈ mm_TB, w.before args s = true) (hK : va_K D vwCl (mm_tys kA) s) (hP : va_P D vwCl (mm_wld σ kA μ) H) (hD : va_D A (mm_wld σ kA μ)) (hS0 : va_S A H0 H locs) (hA : ∀ q, H0.size ≤ q → A q)
    (hok : mm_okn own x idx = true) (hd : decode cc pc = .ok (.new idx, 3)) (hPk : mm_okS μ.2.1 μ.2.2.2.1 = true) (hcells : cells + 1 ≤ R.cells) (hslots : slots + (mm_fks.getD x.2.1 []).length ≤ R.slots) {c1 s1 : Nat}
    (kk : ∀ (q : Nat) (H1 : Heap), va_P D vwCl (mm_wld (fun x => if x = μ.2.2.2.1.length then q else σ x) kA ((fun c => if c = μ.2.2.2.1.length then (fun _ => 0) else μ.1 c), (fun c => if c = μ.2.2.2.1.length then (fun _ => mm_NU) else μ.2.1 c), (fun c => if c = μ.2.2.2.1.length then (fun _ => 0) else μ.2.2.1 c), μ.2.2.2.1 ++ [(x.2.1, (mm_fks.getD x.2.1 []).length)], c1, s1)) H1 →
      va_D A (mm_wld (fun x => if x = μ.2.2.2.1.length then q else σ x) kA ((fun c => if c = μ.2.2.2.1.length then (fun _ => 0) else μ.1 c), (fun c => if c = μ.2.2.2.1.length then (fun _ => mm_NU) else μ.2.1 c), (fun c => if c = μ.2.2.2.1.length then (fun _ => 0) else μ.2.2.1 c), μ.2.2.2.1 ++ [(x.2.1, (mm_fks.getD x.2.1 []).length)], c1, s1)) → va_S A H0 H1 locs →
      W p l e R s m args below meth c H1 locs (cells + 1) (slots + (mm_fks.getD x.2.1 []).length) Q (F0 m (pc + 3) lj (.ref q :: rest))) : W p l e R s m args below meth c H locs cells slots Q (F0 m pc lj rest) := by
  unfold mm_okn at hok
  split at hok
  · rename_i C T N hc
    simp only [Bool.and_eq_true, decide_eq_true_eq] at hok
    have h2 := mm_cls2 hc
    simp only [mm_cls2Ok, Bool.and_eq_true, decide_eq_true_eq, List.all_eq_true, List.mem_range] at h2
    obtain ⟨⟨⟨⟨g1, g2⟩, g3⟩, g4⟩, g5⟩ := h2
    obtain ⟨f1, f2, f3⟩ := mm_cls hc
    have h9 := mm_ci9 hc
    rw [g1] at hslots kk
    refine va_new (D := D) (ci := x.2.1) (fs := (List.range N).map (fun i => mm_fv σ (mm_fk x.2.1 i) 0 mm_NU 0)) (C := C) (T := T) (N := N) hx hb hts f1 (mm_ty x.2.1) f2 hown (hts _ (mm_TBof hok.1 hok.2)) (hts _ (mm_TBc g3)) (hts _ (mm_TBc g4)) hK hP hD hS0 hA hc (fun j hj => ?_) hcells hslots hd (fun q H1 hP1 hD1 hS1 => ?_)
    · have hk := g2 j hj
      simp only [vp_V]
      rw [List.getD_eq_getElem?_getD, List.getElem?_map, List.getElem?_range hj]
      simp only [Option.map_some, Option.getD_some, mm_fv]
      generalize mm_fk x.2.1 j = f at hk
      generalize mm_ty x.2.1 j = ty at hk
      unfold mm_kt at hk
      split at hk <;> first | rfl | (simp [defaultValue, mm_rv, mm_tr]; done) | cases hk
    · have e2 : mm_wld (fun x => if x = μ.2.2.2.1.length then q else σ x) kA ((fun c => if c = μ.2.2.2.1.length then (fun _ => 0) else μ.1 c), (fun c => if c = μ.2.2.2.1.length then (fun _ => mm_NU) else μ.2.1 c), (fun c => if c = μ.2.2.2.1.length then (fun _ => 0) else μ.2.2.1 c), μ.2.2.2.1 ++ [(x.2.1, N)], c1, s1) = mm_wld σ kA μ ++ [(q, .inr (x.2.1, (List.range N).map (fun i => mm_fv σ (mm_fk x.2.1 i) 0 mm_NU 0)))] := by
        rw [mm_wld_push hPk]
        simp only [mm_cell]
        rw [if_neg (by omega), if_neg (by omega)]
      refine kk q H1 ?_ ?_ hS1
      · rw [e2]; exact hP1
      · rw [e2]; exact hD1
  · cases hok
theorem mm_snewa {atype : ArrayType} {t : Nat} {n : Int32} {f0 : ((Nat → Int32) ⊕ (Nat → Int64) ⊕ (Nat → UInt32) ⊕ (Nat → UInt64) ⊕ (Nat → Option Nat))} (hx : p.tables.exec = Jvm.exec) (hb : c.code = cc) (hts : ∀ w ∈ mm_TB, w.before args s = true) (hK : va_K D vwCl (mm_tys kA) s) (hP : va_P D vwCl (mm_wld σ kA μ) H) (hD : va_D A (mm_wld σ kA μ)) (hS0 : va_S A H0 H locs) (hA : ∀ q, H0.size ≤ q → A q)
    (hok : mm_contains (.arrayClass (newarray.typeOf atype)) = true) (hd : decode cc pc = .ok (.newarray atype, 2)) (hPk : mm_okS μ.2.1 μ.2.2.2.1 = true) (hn : ¬ n < 0) (hn2 : n.toNatClampNeg ≤ 100000) (hcells : cells + 1 ≤ R.cells) (hslots : slots + n.toNatClampNeg ≤ R.slots) {c1 s1 j : Nat} {ty : FieldType} (hty : newarray.typeOf atype = ty) (hk : (mm_tys kA)[j]? = some (kA t, ty))
    (hcell : mm_cell σ kA ((fun _ _ => 0), (fun _ _ => mm_NU), (fun _ _ => 0), [], 0, 0) 0 (t, n.toNatClampNeg) = .inl (kA t, n.toNatClampNeg, f0)) (hdef : ∀ cA, vp_cell cA (n.toNatClampNeg, f0) = arrV cA n.toNatClampNeg (fun _ => defaultValue ty)) (hby : componentBytes ty ≤ 8) (hra : ∀ U cA, va_RA U cA ty → U.vm.findClass ("[" ++ ty.toString) = some cA)
    (kk : ∀ (q : Nat) (H1 : Heap), va_P D vwCl (mm_wld (fun x => if x = μ.2.2.2.1.length then q else σ x) kA ((fun c => if c = μ.2.2.2.1.length then (fun _ => 0) else μ.1 c), (fun c => if c = μ.2.2.2.1.length then (fun _ => mm_NU) else μ.2.1 c), (fun c => if c = μ.2.2.2.1.length then (fun _ => 0) else μ.2.2.1 c), μ.2.2.2.1 ++ [(t, n.toNatClampNeg)], c1, s1)) H1 →
      va_D A (mm_wld (fun x => if x = μ.2.2.2.1.length then q else σ x) kA ((fun c => if c = μ.2.2.2.1.length then (fun _ => 0) else μ.1 c), (fun c => if c = μ.2.2.2.1.length then (fun _ => mm_NU) else μ.2.1 c), (fun c => if c = μ.2.2.2.1.length then (fun _ => 0) else μ.2.2.1 c), μ.2.2.2.1 ++ [(t, n.toNatClampNeg)], c1, s1)) → va_S A H0 H1 locs →
      W p l e R s m args below meth c H1 locs (cells + 1) (slots + n.toNatClampNeg) Q (F0 m (pc + 2) lj (.ref q :: rest))) : W p l e R s m args below meth c H locs cells slots Q (F0 m pc lj (.int n :: rest)) := by
  refine va_newa (D := D) (a0 := (n.toNatClampNeg, f0)) hx hb (hts _ (mm_TBc hok)) hty hK hP hD hS0 hA hdef hn rfl (by have := Nat.mul_le_mul hn2 hby; omega) hcells hslots hd (fun q cA H1 hK1 hP1 hD1 hS1 => ?_)
  have hcA : cA = kA t := by
    have q1 := (hK1.2 (mm_tys kA).length (cA, ty) (by simp)).2
    have q2 := (hK.2 j _ hk).2
    exact Option.some.inj ((hra _ _ q1).symm.trans (hra _ _ q2))
  subst hcA
  have e2 : mm_wld (fun x => if x = μ.2.2.2.1.length then q else σ x) kA ((fun c => if c = μ.2.2.2.1.length then (fun _ => 0) else μ.1 c), (fun c => if c = μ.2.2.2.1.length then (fun _ => mm_NU) else μ.2.1 c), (fun c => if c = μ.2.2.2.1.length then (fun _ => 0) else μ.2.2.1 c), μ.2.2.2.1 ++ [(t, n.toNatClampNeg)], c1, s1) = mm_wld σ kA μ ++ [(q, .inl (kA t, n.toNatClampNeg, f0))] := by
    rw [mm_wld_push hPk, hcell]
  refine kk q H1 ?_ ?_ hS1
  · rw [e2]; exact hP1
  · rw [e2]; exact hD1
theorem mm_oi1 : mm_contains (.instanceMethod Lib.objectInit) = true := by decide +kernel
theorem mm_oi2 : mm_contains (.code Lib.objectInit object_method_1_code 1 none) = true := by decide +kernel
theorem mm_sobj (hx : p.tables.exec = Jvm.exec) (hb : c.code = cc) (hml : c.maxLocals = lj.size) (hown : s.vm.findClass own = some m.cls) (hts : ∀ w ∈ mm_TB, w.before args s = true) (hlink : Cond.methodLink own idx Lib.objectInit ∈ mm_TB) (hd : decode cc pc = .ok (.invokespecial idx, 3)) (h8 : (rest.map fun v => v.category).sum ≤ 8) (hf : 1 ≤ R.frames) (hlo : 20 ≤ R.locals)
    (kk : W p l e R s m args below meth c H locs cells slots Q (F0 m (pc + 3) lj rest)) : W p l e R s m args below meth c H locs cells slots Q (F0 m pc lj (.ref a :: rest)) := by
  refine W.objInit hx hb hown (hts _ hlink) (hts _ (mm_TBc mm_oi1)) (hts _ (mm_TBc mm_oi2)) rfl hml.symm rfl hd hf ?_ kk
  show 2 * 0 + _ + 12 ≤ _
  omega
theorem mm_ma1 : mm_contains (.static Lib.Math.max.name) = true := by decide +kernel
theorem mm_ma2 : mm_contains (.initialized "java/lang/Math") = true := by decide +kernel
theorem mm_ma3 : mm_contains (.code Lib.Math.max.name Lib.Math.max.code 2 (some .int)) = true := by decide +kernel
theorem mm_ma4 : mm_contains (.static Lib.Math.min.name) = true := by decide +kernel
theorem mm_ma5 : mm_contains (.code Lib.Math.min.name Lib.Math.min.code 2 (some .int)) = true := by decide +kernel
theorem mm_ma6 : mm_contains (.static Lib.MathLoose.max_long.x) = true := by decide +kernel
theorem mm_ma7 : mm_contains (.code Lib.MathLoose.max_long.x Lib.MathLoose.max_long.code 4 (some .long)) = true := by decide +kernel
end NW
