/-! THE MACHINE FOLLOWS THE SMALL ONE: fields, arrays, constants, new cells -/
def mm_TB : List Cond := lw_tbl.filter goodWord
theorem mm_TBof {w : Nat} {X : Cond} (h : lw_tbl[w]? = some X) (hg : goodWord X = true) : X ∈ mm_TB := List.mem_filter.mpr ⟨List.mem_of_getElem? h, hg⟩
def mm_tys (kA : Nat → ClassId) : List (ClassId × FieldType) := [(kA 100, .int), (kA 101, .boolean), (kA 102, .long)]
def mm_ty (ci : Nat) : Nat → FieldType := match ci with
  | 0 => tyX0
  | 1 => tyX1
  | 2 => tyX3
  | 3 => tyX4
  | 4 => tyX5
  | 5 => tyX6
  | 6 => tyX7
  | 7 => tyX8
  | _ => tyX9
/-- what a class's rows of the tables give -/
def mm_clsOk (ci : Nat) (q : vw_C) : Prop := (∀ w ∈ u_ws q.1 q.2.1 q.2.2, w ∈ mm_TB) ∧ (∀ k, k < q.2.2 → parseFieldDescriptor (q.2.1 k).2.2.1 = some (mm_ty ci k)) ∧ (∀ a, a < q.2.2 → ∀ b, b < q.2.2 → a ≠ b → (q.2.1 a).2.1 ≠ (q.2.1 b).2.1)
theorem mm_uin {C : String} {T : u_T} {N : Nat} (h : ((List.range N).all fun k => lw_tbl.contains (u_lay C T k) && goodWord (u_lay C T k)) = true) : ∀ w ∈ u_ws C T N, w ∈ mm_TB := by
  intro w hw
  obtain ⟨k, hk, rfl⟩ := List.mem_map.mp hw
  have h1 := List.all_eq_true.mp h k hk
  simp only [Bool.and_eq_true, List.contains_iff_mem] at h1
  exact List.mem_filter.mpr h1
theorem mm_u0 : ∀ w ∈ u_ws RX0 TX0 3, w ∈ mm_TB := mm_uin (by decide +kernel)
theorem mm_u1 : ∀ w ∈ u_ws RX1 TX1 3, w ∈ mm_TB := mm_uin (by decide +kernel)
theorem mm_u2 : ∀ w ∈ u_ws RX3 TX3 10, w ∈ mm_TB := mm_uin (by decide +kernel)
theorem mm_u3 : ∀ w ∈ u_ws RX4 TX4 6, w ∈ mm_TB := mm_uin (by decide +kernel)
theorem mm_u4 : ∀ w ∈ u_ws RX5 TX5 8, w ∈ mm_TB := mm_uin (by decide +kernel)
theorem mm_u5 : ∀ w ∈ u_ws RX6 TX6 6, w ∈ mm_TB := mm_uin (by decide +kernel)
theorem mm_u6 : ∀ w ∈ u_ws RX7 TX7 3, w ∈ mm_TB := mm_uin (by decide +kernel)
theorem mm_u7 : ∀ w ∈ u_ws RX8 TX8 16, w ∈ mm_TB := mm_uin (by decide +kernel)
theorem mm_u8 : ∀ w ∈ u_ws RX9 TX9 55, w ∈ mm_TB := mm_uin (by decide +kernel)
theorem mm_cls {ci : Nat} {q : vw_C} (h : vwCl[ci]? = some q) : mm_clsOk ci q := by
  match ci, h with
  | 0, h => cases h; exact ⟨mm_u0, tyX0_ok, nmX0⟩
  | 1, h => cases h; exact ⟨mm_u1, tyX1_ok, nmX1⟩
  | 2, h => cases h; exact ⟨mm_u2, tyX3_ok, nmX3⟩
  | 3, h => cases h; exact ⟨mm_u3, tyX4_ok, nmX4⟩
  | 4, h => cases h; exact ⟨mm_u4, tyX5_ok, nmX5⟩
  | 5, h => cases h; exact ⟨mm_u5, tyX6_ok, nmX6⟩
  | 6, h => cases h; exact ⟨mm_u6, tyX7_ok, nmX7⟩
  | 7, h => cases h; exact ⟨mm_u7, tyX8_ok, nmX8⟩
  | 8, h => cases h; exact ⟨mm_u8, tyX9_ok, nmX9⟩
  | n + 9, h => simp [vwCl] at h
theorem mm_ci9 {ci : Nat} {q : vw_C} (h : vwCl[ci]? = some q) : ci < 9 := (List.getElem?_eq_some_iff.mp h).1
/-- kind and type of a field agree -/
def mm_kt (f : Nat) (ty : FieldType) : Bool := match f, ty with
  | 0, .int => true
  | 1, .boolean => true
  | 2, .object _ => true
  | 2, .array _ => true
  | 3, .long => true
  | _, _ => false
def mm_okf (own : String) (x : mm_I) (idx : Nat) : Bool := match vwCl[x.2.1]? with
  | some (C, T, N) => decide (x.2.2.1 < N) && decide (lw_tbl[x.2.2.2.1]? = some (.fieldLink own idx C (T x.2.2.1).2.1 (T x.2.2.1).2.2.1)) && goodWord (.fieldLink own idx C (T x.2.2.1).2.1 (T x.2.2.1).2.2.1) && decide ((T x.2.2.1).1 = C) && mm_kt (mm_fk x.2.1 x.2.2.1) (mm_ty x.2.1 x.2.2.1)
  | none => false
def mm_okp (own nm : String) (x : mm_I) : Bool := match vwCl[x.2.1]? with
  | some (C, T, _) => decide ((T x.2.2.1).2.2.2 = false) || (decide (nm = "<init>") && decide (C = own))
  | none => false
section ME
variable {p : Program} {l : Launch} {e : Env} {R : Room} {s : State} {m : MethodId} {args : Array Value} {below : List Frame} {meth : Method} {c : Code} {H : Heap} {locs : List Loc} {cells slots : Nat} {Q : State → Prop}
variable {cc : ByteArray} {pc : Nat} {lj : Array Slot} {σ : Nat → Nat} {kA : Nat → ClassId} {D : va_G} {A : Nat → Prop} {H0 : Heap} {own nm : String} {idx : Nat} {rest : List Value} {x : mm_I} {μ : mm_M} {a : Nat}
theorem mm_sgf (hx : p.tables.exec = Jvm.exec) (hb : c.code = cc) (hown : s.vm.findClass own = some m.cls) (hts : ∀ w ∈ mm_TB, w.before args s = true) (hK : va_K D vwCl (mm_tys kA) s) (hP : va_P D vwCl (mm_wld σ kA μ) H)
    (hok : mm_okf own x idx = true) (hd : decode cc pc = .ok (.getfield idx, 3)) {n : Nat} (hS : μ.2.2.2.1[a]? = some (x.2.1, n)) (hn : x.2.2.1 < n)
    (kk : W p l e R s m args below meth c H locs cells slots Q (F0 m (pc + 3) lj (mm_fv σ (mm_fk x.2.1 x.2.2.1) (μ.1 a x.2.2.1) (μ.2.1 a x.2.2.1) (μ.2.2.1 a x.2.2.1) :: rest))) : W p l e R s m args below meth c H locs cells slots Q (F0 m pc lj (.ref (σ a) :: rest)) := by
  unfold mm_okf at hok
  split at hok
  · rename_i C T N hc
    simp only [Bool.and_eq_true, decide_eq_true_eq] at hok
    obtain ⟨⟨⟨⟨h1, h2⟩, h3⟩, h4⟩, -⟩ := hok
    have h9 := mm_ci9 hc
    have he := mm_wld_at (σ := σ) (kA := kA) hS
    rw [show mm_cell σ kA μ a (x.2.1, n) = .inr (x.2.1, (List.range n).map (fun i => mm_fv σ (mm_fk x.2.1 i) (μ.1 a i) (μ.2.1 a i) (μ.2.2.1 a i))) by simp only [mm_cell]; rw [if_neg (by omega), if_neg (by omega)]] at he
    refine va_get (D := D) (ci := x.2.1) (C := C) (T := T) (N := N) (ref := C) hx hb hts (mm_cls hc).1 hown hK hP a he hc x.2.2.1 h1 (hts _ (mm_TBof h2 h3)) (by rw [h4]; exact fun _ h => h) ?_ hd kk
    simp [hn]
  · cases hok
theorem mm_kt_i {ty : FieldType} (h : mm_kt 0 ty = true) (v : Int32) : narrow ty (.int v) = .int v ∧ fits ty (.int v) = true := by
  cases ty <;> simp_all [mm_kt, narrow, fits]
theorem mm_kt_z {ty : FieldType} (h : mm_kt 1 ty = true) {v : Int32} (hv : v = 0 ∨ v = 1) : narrow ty (.int v) = .int v ∧ fits ty (.int v) = true := by
  cases ty <;> simp [mm_kt] at h
  rcases hv with rfl | rfl <;> exact ⟨rfl, rfl⟩
theorem mm_kt_r {ty : FieldType} (h : mm_kt 2 ty = true) (v : Nat) : narrow ty (.ref v) = .ref v ∧ fits ty (.ref v) = true := by
  cases ty <;> simp_all [mm_kt, narrow, fits]
theorem mm_kt_l {ty : FieldType} (h : mm_kt 3 ty = true) (v : Int64) : narrow ty (.long v) = .long v ∧ fits ty (.long v) = true := by
  cases ty <;> simp_all [mm_kt, narrow, fits]
theorem mm_spf (hx : p.tables.exec = Jvm.exec) (hb : c.code = cc) (hown : s.vm.findClass own = some m.cls) (hnm : meth.name = nm) (hts : ∀ w ∈ mm_TB, w.before args s = true) (hK : va_K D vwCl (mm_tys kA) s) (hP : va_P D vwCl (mm_wld σ kA μ) H) (hD : va_D A (mm_wld σ kA μ)) (hS0 : va_S A H0 H locs)
    (hok : mm_okf own x idx = true) (hok2 : mm_okp own nm x = true) (hd : decode cc pc = .ok (.putfield idx, 3)) {n : Nat} (hS : μ.2.2.2.1[a]? = some (x.2.1, n)) (hn : x.2.2.1 < n) {v : Value} (hv : ∀ ty, mm_kt (mm_fk x.2.1 x.2.2.1) ty = true → narrow ty v = v ∧ fits ty v = true) {μ' : mm_M}
    (hS' : μ'.2.2.2.1 = μ.2.2.2.1) (hv' : mm_fv σ (mm_fk x.2.1 x.2.2.1) (μ'.1 a x.2.2.1) (μ'.2.1 a x.2.2.1) (μ'.2.2.1 a x.2.2.1) = v) (ho : ∀ j, j ≠ x.2.2.1 → μ'.1 a j = μ.1 a j ∧ μ'.2.1 a j = μ.2.1 a j ∧ μ'.2.2.1 a j = μ.2.2.1 a j) (hb' : ∀ b, b ≠ a → μ'.1 b = μ.1 b ∧ μ'.2.1 b = μ.2.1 b ∧ μ'.2.2.1 b = μ.2.2.1 b)
    (kk : ∀ (H1 : Heap) (locs1 : List Loc), va_P D vwCl (mm_wld σ kA μ') H1 → va_D A (mm_wld σ kA μ') → va_S A H0 H1 locs1 → W p l e R s m args below meth c H1 locs1 cells slots Q (F0 m (pc + 3) lj rest)) : W p l e R s m args below meth c H locs cells slots Q (F0 m pc lj (v :: .ref (σ a) :: rest)) := by
  unfold mm_okf at hok
  unfold mm_okp at hok2
  split at hok
  · rename_i C T N hc
    rw [hc] at hok2
    simp only [Bool.and_eq_true, decide_eq_true_eq, Bool.or_eq_true] at hok hok2
    obtain ⟨⟨⟨⟨h1, h2⟩, h3⟩, h4⟩, h5⟩ := hok
    have h9 := mm_ci9 hc
    have he := mm_wld_at (σ := σ) (kA := kA) hS
    rw [show mm_cell σ kA μ a (x.2.1, n) = .inr (x.2.1, (List.range n).map (fun i => mm_fv σ (mm_fk x.2.1 i) (μ.1 a i) (μ.2.1 a i) (μ.2.2.1 a i))) by simp only [mm_cell]; rw [if_neg (by omega), if_neg (by omega)]] at he
    obtain ⟨g1, g2, g3⟩ := mm_cls hc
    have e2 := mm_wld_setf (σ := σ) (kA := kA) (v := v) hS' hS (by omega) hn hv' ho hb'
    obtain ⟨n1, n2⟩ := hv _ h5
    rcases hok2 with hf | ⟨hf1, hf2⟩
    · refine va_put (D := D) (ci := x.2.1) (C := C) (T := T) (N := N) (ref := C) hx hb hts g1 (mm_ty x.2.1) g2 g3 hown hK hP hD hS0 a he hc x.2.2.1 h1 (hts _ (mm_TBof h2 h3)) (by rw [h4]; exact fun _ h => h) hf (g2 _ h1) n1 n2 (by simpa using hn) hd (fun H1 locs1 hP1 hD1 hS1 => ?_)
      rw [e2] at hP1 hD1
      exact kk H1 locs1 hP1 hD1 hS1
    · by_cases hfin : (T x.2.2.1).2.2.2 = true
      · refine va_putF (D := D) (ci := x.2.1) (C := C) (T := T) (N := N) (ref := C) hx hb hts g1 (mm_ty x.2.1) g2 g3 hown hK hP hD hS0 a he hc x.2.2.1 h1 (hts _ (mm_TBof h2 h3)) (by rw [h4]; exact fun _ h => h) hfin (hnm.trans hf1) (h4.trans hf2) (g2 _ h1) n1 n2 (by simpa using hn) hd (fun H1 locs1 hP1 hD1 hS1 => ?_)
        rw [e2] at hP1 hD1
        exact kk H1 locs1 hP1 hD1 hS1
      · refine va_put (D := D) (ci := x.2.1) (C := C) (T := T) (N := N) (ref := C) hx hb hts g1 (mm_ty x.2.1) g2 g3 hown hK hP hD hS0 a he hc x.2.2.1 h1 (hts _ (mm_TBof h2 h3)) (by rw [h4]; exact fun _ h => h) (by simpa using hfin) (g2 _ h1) n1 n2 (by simpa using hn) hd (fun H1 locs1 hP1 hD1 hS1 => ?_)
        rw [e2] at hP1 hD1
        exact kk H1 locs1 hP1 hD1 hS1
  · cases hok
/-! arrays -/
theorem mm_cell_i {t n : Nat} (ht : t = 100 ∨ t = 101) : mm_cell σ kA μ a (t, n) = .inl (kA t, n, .inl (μ.1 a)) := by simp only [mm_cell, if_pos ht]
theorem mm_cell_l {n : Nat} : mm_cell σ kA μ a (102, n) = .inl (kA 102, n, .inr (.inl (μ.2.2.1 a))) := by simp only [mm_cell]; rw [if_neg (by decide), if_pos trivial]
theorem mm_siald (hx : p.tables.exec = Jvm.exec) (hb : c.code = cc) (hK : va_K D vwCl (mm_tys kA) s) (hP : va_P D vwCl (mm_wld σ kA μ) H) {n : Nat} {i : Int32} (hS : μ.2.2.2.1[a]? = some (100, n)) (hin : mm_ix i n) (hd : decode cc pc = .ok (.iaload, 1))
    (kk : W p l e R s m args below meth c H locs cells slots Q (F0 m (pc + 1) lj (.int (μ.1 a i.toNatClampNeg) :: rest))) : W p l e R s m args below meth c H locs cells slots Q (F0 m pc lj (.int i :: .ref (σ a) :: rest)) := by
  have he := mm_wld_at (σ := σ) (kA := kA) hS
  rw [mm_cell_i (Or.inl rfl)] at he
  exact va_iald hx hb hK hP a 0 he rfl hin hd kk
theorem mm_szald (hx : p.tables.exec = Jvm.exec) (hb : c.code = cc) (hK : va_K D vwCl (mm_tys kA) s) (hP : va_P D vwCl (mm_wld σ kA μ) H) {n : Nat} {i : Int32} (hS : μ.2.2.2.1[a]? = some (101, n)) (hin : mm_ix i n) (hd : decode cc pc = .ok (.baload, 1))
    (kk : W p l e R s m args below meth c H locs cells slots Q (F0 m (pc + 1) lj (.int (μ.1 a i.toNatClampNeg) :: rest))) : W p l e R s m args below meth c H locs cells slots Q (F0 m pc lj (.int i :: .ref (σ a) :: rest)) := by
  have he := mm_wld_at (σ := σ) (kA := kA) hS
  rw [mm_cell_i (Or.inr rfl)] at he
  exact va_zald hx hb hK hP a 1 he rfl hin hd kk
theorem mm_slald (hx : p.tables.exec = Jvm.exec) (hb : c.code = cc) (hK : va_K D vwCl (mm_tys kA) s) (hP : va_P D vwCl (mm_wld σ kA μ) H) {n : Nat} {i : Int32} (hS : μ.2.2.2.1[a]? = some (102, n)) (hin : mm_ix i n) (hd : decode cc pc = .ok (.laload, 1))
    (kk : W p l e R s m args below meth c H locs cells slots Q (F0 m (pc + 1) lj (.long (μ.2.2.1 a i.toNatClampNeg) :: rest))) : W p l e R s m args below meth c H locs cells slots Q (F0 m pc lj (.int i :: .ref (σ a) :: rest)) := by
  have he := mm_wld_at (σ := σ) (kA := kA) hS
  rw [mm_cell_l] at he
  exact va_lald hx hb hK hP a 2 he rfl hin hd kk
theorem mm_salen (hx : p.tables.exec = Jvm.exec) (hb : c.code = cc) (hK : va_K D vwCl (mm_tys kA) s) (hP : va_P D vwCl (mm_wld σ kA μ) H) {t n : Nat} (hS : μ.2.2.2.1[a]? = some (t, n)) (ht : t = 100 ∨ t = 101 ∨ t = 102) (hd : decode cc pc = .ok (.arraylength, 1))
    (kk : W p l e R s m args below meth c H locs cells slots Q (F0 m (pc + 1) lj (.int (Int32.ofNat n) :: rest))) : W p l e R s m args below meth c H locs cells slots Q (F0 m pc lj (.ref (σ a) :: rest)) := by
  have he := mm_wld_at (σ := σ) (kA := kA) hS
  rcases ht with rfl | rfl | rfl
  · rw [mm_cell_i (Or.inl rfl)] at he
    exact va_alen hx hb hK hP a 0 he rfl rfl hd kk
  · rw [mm_cell_i (Or.inr rfl)] at he
    exact va_alen hx hb hK hP a 1 he rfl rfl hd kk
  · rw [mm_cell_l] at he
    exact va_alen hx hb hK hP a 2 he rfl rfl hd kk
theorem mm_siast (hx : p.tables.exec = Jvm.exec) (hb : c.code = cc) (hK : va_K D vwCl (mm_tys kA) s) (hP : va_P D vwCl (mm_wld σ kA μ) H) (hD : va_D A (mm_wld σ kA μ)) (hS0 : va_S A H0 H locs) {n : Nat} {i v : Int32} (hS : μ.2.2.2.1[a]? = some (100, n)) (hin : mm_ix i n) (hd : decode cc pc = .ok (.iastore, 1))
    (kk : ∀ (H1 : Heap) (locs1 : List Loc), va_P D vwCl (mm_wld σ kA (mm_up μ.1 a i.toNatClampNeg v, μ.2)) H1 → va_D A (mm_wld σ kA (mm_up μ.1 a i.toNatClampNeg v, μ.2)) → va_S A H0 H1 locs1 → W p l e R s m args below meth c H1 locs1 cells slots Q (F0 m (pc + 1) lj rest)) : W p l e R s m args below meth c H locs cells slots Q (F0 m pc lj (.int v :: .int i :: .ref (σ a) :: rest)) := by
  have he := mm_wld_at (σ := σ) (kA := kA) hS
  rw [mm_cell_i (Or.inl rfl)] at he
  refine va_iast hx hb hK hP hD hS0 a 0 he rfl hin hd (fun H1 locs1 hP1 hD1 hS1 => ?_)
  have e2 := mm_wld_seti (σ := σ) (kA := kA) (I := μ.1) (P := μ.2.1) (J := μ.2.2.1) (S := μ.2.2.2.1) (nc := μ.2.2.2.2.1) (ns := μ.2.2.2.2.2) (i := i.toNatClampNeg) (v := v) hS (Or.inl rfl)
  rw [show ((μ.1, μ.2.1, μ.2.2.1, μ.2.2.2.1, μ.2.2.2.2.1, μ.2.2.2.2.2) : mm_M) = μ from rfl] at e2
  rw [e2] at hP1 hD1
  exact kk H1 locs1 hP1 hD1 hS1
theorem mm_szast (hx : p.tables.exec = Jvm.exec) (hb : c.code = cc) (hK : va_K D vwCl (mm_tys kA) s) (hP : va_P D vwCl (mm_wld σ kA μ) H) (hD : va_D A (mm_wld σ kA μ)) (hS0 : va_S A H0 H locs) {n : Nat} {i v : Int32} (hS : μ.2.2.2.1[a]? = some (101, n)) (hin : mm_ix i n) (hv : v = 0 ∨ v = 1) (hd : decode cc pc = .ok (.bastore, 1))
    (kk : ∀ (H1 : Heap) (locs1 : List Loc), va_P D vwCl (mm_wld σ kA (mm_up μ.1 a i.toNatClampNeg v, μ.2)) H1 → va_D A (mm_wld σ kA (mm_up μ.1 a i.toNatClampNeg v, μ.2)) → va_S A H0 H1 locs1 → W p l e R s m args below meth c H1 locs1 cells slots Q (F0 m (pc + 1) lj rest)) : W p l e R s m args below meth c H locs cells slots Q (F0 m pc lj (.int v :: .int i :: .ref (σ a) :: rest)) := by
  have he := mm_wld_at (σ := σ) (kA := kA) hS
  rw [mm_cell_i (Or.inr rfl)] at he
  refine va_zast hx hb hK hP hD hS0 a 1 he rfl hin hd (fun H1 locs1 hP1 hD1 hS1 => ?_)
  have e2 := mm_wld_seti (σ := σ) (kA := kA) (I := μ.1) (P := μ.2.1) (J := μ.2.2.1) (S := μ.2.2.2.1) (nc := μ.2.2.2.2.1) (ns := μ.2.2.2.2.2) (i := i.toNatClampNeg) (v := v) hS (Or.inr rfl)
  rw [show ((μ.1, μ.2.1, μ.2.2.1, μ.2.2.2.1, μ.2.2.2.2.1, μ.2.2.2.2.2) : mm_M) = μ from rfl] at e2
  rw [show vp_nar .boolean v = v by rcases hv with rfl | rfl <;> rfl, e2] at hP1 hD1
  exact kk H1 locs1 hP1 hD1 hS1
theorem mm_slast (hx : p.tables.exec = Jvm.exec) (hb : c.code = cc) (hK : va_K D vwCl (mm_tys kA) s) (hP : va_P D vwCl (mm_wld σ kA μ) H) (hD : va_D A (mm_wld σ kA μ)) (hS0 : va_S A H0 H locs) {n : Nat} {i : Int32} {v : Int64} (hS : μ.2.2.2.1[a]? = some (102, n)) (hin : mm_ix i n) (hd : decode cc pc = .ok (.lastore, 1))
    (kk : ∀ (H1 : Heap) (locs1 : List Loc), va_P D vwCl (mm_wld σ kA (μ.1, μ.2.1, mm_up μ.2.2.1 a i.toNatClampNeg v, μ.2.2.2)) H1 → va_D A (mm_wld σ kA (μ.1, μ.2.1, mm_up μ.2.2.1 a i.toNatClampNeg v, μ.2.2.2)) → va_S A H0 H1 locs1 → W p l e R s m args below meth c H1 locs1 cells slots Q (F0 m (pc + 1) lj rest)) : W p l e R s m args below meth c H locs cells slots Q (F0 m pc lj (.long v :: .int i :: .ref (σ a) :: rest)) := by
  have he := mm_wld_at (σ := σ) (kA := kA) hS
  rw [mm_cell_l] at he
  refine va_last hx hb hK hP hD hS0 a 2 he rfl hin hd (fun H1 locs1 hP1 hD1 hS1 => ?_)
  have e2 := mm_wld_setl (σ := σ) (kA := kA) (I := μ.1) (P := μ.2.1) (J := μ.2.2.1) (S := μ.2.2.2.1) (nc := μ.2.2.2.2.1) (ns := μ.2.2.2.2.2) (i := i.toNatClampNeg) (v := v) hS
  rw [show ((μ.1, μ.2.1, μ.2.2.1, μ.2.2.2.1, μ.2.2.2.2.1, μ.2.2.2.2.2) : mm_M) = μ from rfl] at e2
  rw [e2] at hP1 hD1
  exact kk H1 locs1 hP1 hD1 hS1
theorem mm_scpy (hx : p.tables.exec = Jvm.exec) (hb : c.code = cc) (hml : c.maxLocals = lj.size) (hown : s.vm.findClass own = some m.cls) (hts : ∀ w ∈ mm_TB, w.before args s = true) (hlink : Cond.methodLink own idx arraycopyName ∈ mm_TB) (hnat : Cond.native arraycopyName ∈ mm_TB) (hstat : Cond.static arraycopyName ∈ mm_TB) (hini : Cond.initialized "java/lang/System" ∈ mm_TB)
    (hK : va_K D vwCl (mm_tys kA) s) (hP : va_P D vwCl (mm_wld σ kA μ) H) (hD : va_D A (mm_wld σ kA μ)) (hS0 : va_S A H0 H locs) {n n2 b : Nat} {sp dp q : Int32} (hS : μ.2.2.2.1[a]? = some (100, n)) (hS2 : μ.2.2.2.1[b]? = some (100, n2)) (h1 : ¬ q < 0) (h2 : ¬ sp < 0) (h3 : ¬ dp < 0) (h4 : sp.toNatClampNeg + q.toNatClampNeg ≤ n) (h5 : dp.toNatClampNeg + q.toNatClampNeg ≤ n2)
    (hframes : 1 ≤ R.frames) (hlocals : (rest.map fun v => v.category).sum + (nativeFrameWords "java/lang/System" "arraycopy" 5 + 11) ≤ R.locals) (hd : decode cc pc = .ok (.invokestatic idx, 3))
    (kk : ∀ (H1 : Heap) (locs1 : List Loc), va_P D vwCl (mm_wld σ kA ((fun c => if c = b then va_cpy (μ.1 a) (μ.1 b) sp.toNatClampNeg dp.toNatClampNeg q.toNatClampNeg else μ.1 c), μ.2)) H1 → va_D A (mm_wld σ kA ((fun c => if c = b then va_cpy (μ.1 a) (μ.1 b) sp.toNatClampNeg dp.toNatClampNeg q.toNatClampNeg else μ.1 c), μ.2)) → va_S A H0 H1 locs1 → W p l e R s m args below meth c H1 locs1 cells slots Q (F0 m (pc + 3) lj rest)) : W p l e R s m args below meth c H locs cells slots Q (F0 m pc lj (.int q :: .int dp :: .ref (σ b) :: .int sp :: .ref (σ a) :: rest)) := by
  have he := mm_wld_at (σ := σ) (kA := kA) hS
  have he2 := mm_wld_at (σ := σ) (kA := kA) hS2
  rw [mm_cell_i (Or.inl rfl)] at he he2
  refine va_copyi hx hb hml hown (hts _ hlink) (hts _ hnat) (hts _ hstat) (hts _ hini) hK hP hD hS0 a b 0 0 he he2 rfl rfl rfl h2 h3 h1 h4 h5 (fun i _ => rfl) hframes hlocals hd (fun H1 locs1 hP1 hD1 hS1 => ?_)
  have e2 := mm_wld_seta (σ := σ) (kA := kA) (I := μ.1) (P := μ.2.1) (J := μ.2.2.1) (S := μ.2.2.2.1) (nc := μ.2.2.2.2.1) (ns := μ.2.2.2.2.2) (f := va_cpy (μ.1 a) (μ.1 b) sp.toNatClampNeg dp.toNatClampNeg q.toNatClampNeg) hS2 (Or.inl rfl)
  rw [show ((μ.1, μ.2.1, μ.2.2.1, μ.2.2.2.1, μ.2.2.2.2.1, μ.2.2.2.2.2) : mm_M) = μ from rfl] at e2
  rw [e2] at hP1 hD1
  exact kk H1 locs1 hP1 hD1 hS1
end ME
