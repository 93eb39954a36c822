/-! ONE STRAIGHT INSTRUCTION, whichever it is -/
def mm_Cx (p : Program) (l : Launch) (R : Room) (s : State) (m : MethodId) (args : Array Value) (meth : Method) (c : Code) (k d : Nat) (D : va_G) (kA : Nat → ClassId) (A : Nat → Prop) : Prop :=
  p.tables.exec = Jvm.exec ∧ c.code = mm_c k ∧ c.maxLocals = mm_mx k ∧ s.vm.findClass (mm_ow k) = some m.cls ∧ meth.name = (mm_y k).name ∧ (∀ w ∈ mm_TB, w.before args s = true) ∧ va_K D vwCl (mm_tys kA) s ∧ (∀ q, s.heap.size ≤ q → A q) ∧ l.stackTraces = false ∧ meth.locks = false ∧ c.exceptionTable.toList = tableOf (mm_hh k) ∧ d + 9 ≤ R.frames ∧ 120 * d + 600 ≤ R.locals
def mm_In (D : va_G) (kA : Nat → ClassId) (A : Nat → Prop) (G : mm_G) (s : State) (c0 s0 : Nat) (σ : Nat → Nat) (μ : mm_M) (H : Heap) (locs : List Loc) (cells slots : Nat) : Prop :=
  va_P D vwCl (mm_wld σ kA μ) H ∧ va_D A (mm_wld σ kA μ) ∧ va_S A s.heap H locs ∧ cells + c0 = μ.2.2.2.2.1 ∧ slots + s0 = μ.2.2.2.2.2 ∧ mm_Ev σ G A s s.heap ∧ μ.2.2.2.1.length ≤ 1000
theorem mm_ac1 : mm_contains (.arrayClass .int) = true := by decide +kernel
theorem mm_ac2 : mm_contains (.arrayClass .boolean) = true := by decide +kernel
theorem mm_ac3 : mm_contains (.arrayClass .long) = true := by decide +kernel
theorem mm_cp1 : mm_contains (.native arraycopyName) = true := by decide +kernel
theorem mm_cp2 : mm_contains (.static arraycopyName) = true := by decide +kernel
theorem mm_cp3 : mm_contains (.initialized "java/lang/System") = true := by decide +kernel
theorem mm_nfw : nativeFrameWords "java/lang/System" "arraycopy" 5 ≤ 500 := by decide +kernel
theorem mm_ckM_link {k : Nat} {x : mm_I} {idx : Nat} (h : mm_ckM k x idx = true) (hn : mm_nst x = 0) : Cond.methodLink (mm_ow k) idx (mm_yS x.2.1) ∈ mm_TB := by
  unfold mm_ckM at h
  split at h
  · rename_i oc ix kk w nz hq
    simp only [decide_eq_true_eq] at h
    obtain ⟨rfl, rfl, rfl⟩ := h
    have h2 := mm_mlAll hq
    have h3 : mm_nst x = nz := by simp only [mm_nst, List.getD_eq_getElem?_getD, hq, Option.getD_some]
    rw [hn] at h3
    subst h3
    simp only [mm_mlOk, if_true] at h2
    exact mm_TBat h2
  · cases h
theorem mm_mlN : mm_ml.all (fun q => decide (q.2.2.1 < 9000) || decide (q.2.2.2.2 = 0)) = true := by decide +kernel
theorem mm_ckM_n0 {k : Nat} {x : mm_I} {idx : Nat} (h : mm_ckM k x idx = true) (h9 : 9000 ≤ x.2.1) : mm_nst x = 0 := by
  unfold mm_ckM at h
  split at h
  · rename_i oc ix kk w nz hq
    simp only [decide_eq_true_eq] at h
    obtain ⟨rfl, rfl, rfl⟩ := h
    have h2 := List.all_eq_true.mp mm_mlN _ (List.mem_of_getElem? hq)
    simp only [Bool.or_eq_true, decide_eq_true_eq] at h2
    simp only [mm_nst, List.getD_eq_getElem?_getD, hq, Option.getD_some]
    omega
  · cases h
theorem mm_ckM_nest {k : Nat} {x : mm_I} {idx : Nat} (h : mm_ckM k x idx = true) (hn : ¬ mm_nst x = 0) : Cond.methodLinkNest (mm_ow k) idx (mm_yS x.2.1) mm_host ∈ mm_NW := by
  unfold mm_ckM at h
  split at h
  · rename_i oc ix kk w nz hq
    simp only [decide_eq_true_eq] at h
    obtain ⟨rfl, rfl, rfl⟩ := h
    have h2 := mm_mlAll hq
    have h3 : mm_nst x = nz := by simp only [mm_nst, List.getD_eq_getElem?_getD, hq, Option.getD_some]
    rw [h3] at hn
    simp only [mm_mlOk, if_neg hn] at h2
    exact mm_NWat h2
  · cases h
theorem mm_ckF_ok {k : Nat} {x : mm_I} {idx : Nat} (h : mm_ckF k x idx = true) : ∃ w, mm_okf (mm_ow k) (.nop, x.2.1, x.2.2.1, w, 0) idx = true := by
  unfold mm_ckF at h
  split at h
  · rename_i oc ix ci sl w hq
    simp only [decide_eq_true_eq] at h
    obtain ⟨rfl, rfl, rfl, rfl⟩ := h
    exact ⟨w, mm_flAll hq⟩
  · cases h
theorem mm_fv_i (σ : Nat → Nat) {f : Nat} (hf : f ≤ 1) (i : Int32) (p : Nat) (j : Int64) : mm_fv σ f i p j = .int i := by simp only [mm_fv, if_pos hf]
theorem mm_fv_r (σ : Nat → Nat) {f : Nat} (hf : f = 2) (i : Int32) (p : Nat) (j : Int64) : mm_fv σ f i p j = mm_tr σ (mm_rv p) := by simp only [mm_fv]; rw [if_neg (by omega), if_pos hf]
theorem mm_fv_l (σ : Nat → Nat) {f : Nat} (hf : f = 3) (i : Int32) (p : Nat) (j : Int64) : mm_fv σ f i p j = .long j := by simp only [mm_fv]; rw [if_neg (by omega), if_neg (by omega)]
theorem mm_up_same {α : Type} (f : Nat → Nat → α) (a i : Nat) (v : α) : mm_up f a i v a i = v := by simp [mm_up]
theorem mm_up_slot {α : Type} (f : Nat → Nat → α) (a i : Nat) (v : α) {j : Nat} (h : j ≠ i) : mm_up f a i v a j = f a j := by simp [mm_up, h]
theorem mm_up_addr {α : Type} (f : Nat → Nat → α) (a i : Nat) (v : α) {b : Nat} (h : b ≠ a) : mm_up f a i v b = f b := by funext j; simp [mm_up, h]
section ST
variable {p : Program} {l : Launch} {e : Env} {R : Room} {s : State} {m : MethodId} {args : Array Value} {below : List Frame} {meth : Method} {c : Code} {H : Heap} {locs : List Loc} {cells slots : Nat} {Q : State → Prop}
variable {k d pc : Nat} {lj : Array Slot} {σ : Nat → Nat} {kA : Nat → ClassId} {D : va_G} {A : Nat → Prop} {G : mm_G} {c0 s0 : Nat}
set_option maxHeartbeats 8000000 in
theorem mm_step {x : mm_I} {ls st ls' st' : List Value} {μ μ' : mm_M} (C : mm_Cx p l R s m args meth c k d D kA A) (I : mm_In D kA A G s c0 s0 σ μ H locs cells slots) (h : mm_one G x ls st μ = some (ls', st', μ')) (hck : mm_ckI k pc x = true) (hd : decode (mm_c k) pc = .ok (x.1, mm_len x.1)) (hl : mm_LV σ ls lj) (hll : ls.length = mm_mx k)
    (hrc : μ'.2.2.2.2.1 ≤ c0 + R.cells) (hrs : μ'.2.2.2.2.2 ≤ s0 + R.slots)
    (kk : ∀ (σ' : Nat → Nat) (H' : Heap) (locs' : List Loc) (cells' slots' : Nat) (lj' : Array Slot), mm_ag μ.2.2.2.1.length μ'.2.2.2.1.length σ σ' → mm_In D kA A G s c0 s0 σ' μ' H' locs' cells' slots' → mm_LV σ' ls' lj' → W p l e R s m args below meth c H' locs' cells' slots' Q (F0 m (pc + mm_len x.1) lj' (st'.map (mm_tr σ')))) :
    W p l e R s m args below meth c H locs cells slots Q (F0 m pc lj (st.map (mm_tr σ))) := by
  obtain ⟨hx, hb, hml, hown, hnm, hts, hK, hA, hst, hlk, htab, hfr, hlo⟩ := C
  obtain ⟨hP, hD, hS, hcc, hcs, hE, hSL⟩ := I
  have hmj : c.maxLocals = lj.size := by rw [hml, hl.1, hll]
  by_cases hp : mm_isP x.1 = true
  · exact mm_sp hx hb hp h hd hl (fun lj' hl' e2 => by subst e2; exact kk σ H locs cells slots lj' mm_ag.rf ⟨hP, hD, hS, hcc, hcs, hE, hSL⟩ hl')
  obtain ⟨i, x1, x2, x3, x4⟩ := x
  cases i <;> (first | (exfalso; simp only [mm_one] at h; cases h; done) | (exfalso; exact hp rfl) | skip)
  case ldc idx =>
    simp only [mm_ckI] at hck
    simp only [mm_one] at h
    split at h
    · rename_i h0
      rw [if_pos h0] at hck
      cases h
      exact lv_ldc hx hb hown (hts _ (mm_TBat hck)) hd (kk σ H locs cells slots lj mm_ag.rf ⟨hP, hD, hS, hcc, hcs, hE, hSL⟩ hl)
    · rename_i h0
      rw [if_neg h0] at hck
      split at h
      · rename_i h1
        rw [if_pos h1] at hck
        cases h
        have h3 := of_decide_eq_true hck
        cases hq : mm_six[x2]? with
        | none => rw [hq] at h3; cases h3
        | some q =>
          rw [hq] at h3
          have h4 : (q.1, q.2.1) = (mm_ow k, idx) := Option.some.inj h3
          have h5 : q.1 = mm_ow k := congrArg Prod.fst h4
          have h6 : q.2.1 = idx := congrArg Prod.snd h4
          have hz := hE.2.1 x2 q hq
          rw [h5, h6] at hz
          exact va_ldcS hx hb hown hz hd (kk σ H locs cells slots lj mm_ag.rf ⟨hP, hD, hS, hcc, hcs, hE, hSL⟩ hl)
      · cases h
  case ldc_w idx =>
    simp only [mm_ckI] at hck
    simp only [mm_one] at h
    split at h
    · rename_i h0
      rw [if_pos h0] at hck
      cases h
      exact lv_ldcw hx hb hown (hts _ (mm_TBat hck)) hd (kk σ H locs cells slots lj mm_ag.rf ⟨hP, hD, hS, hcc, hcs, hE, hSL⟩ hl)
    · cases h
  case ldc2_w idx =>
    simp only [mm_ckI] at hck
    simp only [mm_one] at h
    cases h
    exact lv_ldc2 hx hb hown (hts _ (mm_TBat hck)) hd (kk σ H locs cells slots lj mm_ag.rf ⟨hP, hD, hS, hcc, hcs, hE, hSL⟩ hl)
  case getfield idx =>
    simp only [mm_ckI] at hck
    obtain ⟨w, hok⟩ := mm_ckF_ok hck
    simp only [mm_one] at h
    split at h
    · rename_i a st2
      split at h
      · rename_i ci n hS9
        split at h
        · rename_i h9
          obtain ⟨rfl, hn⟩ := h9
          refine mm_sgf (x := (.nop, ci, x2, w, 0)) hx hb hown hts hK hP hok hd hS9 hn ?_
          split at h
          · rename_i hf
            cases h
            rw [mm_fv_i σ hf]
            exact kk σ H locs cells slots lj mm_ag.rf ⟨hP, hD, hS, hcc, hcs, hE, hSL⟩ hl
          · split at h
            · rename_i hf
              cases h
              rw [mm_fv_r σ hf]
              exact kk σ H locs cells slots lj mm_ag.rf ⟨hP, hD, hS, hcc, hcs, hE, hSL⟩ hl
            · split at h
              · rename_i hf
                cases h
                rw [mm_fv_l σ hf]
                exact kk σ H locs cells slots lj mm_ag.rf ⟨hP, hD, hS, hcc, hcs, hE, hSL⟩ hl
              · cases h
        · cases h
      · cases h
    · cases h
  case putfield idx =>
    simp only [mm_ckI, Bool.and_eq_true] at hck
    obtain ⟨w, hok⟩ := mm_ckF_ok hck.1
    have hok2 : mm_okp (mm_ow k) (mm_y k).name (.nop, x1, x2, w, 0) = true := hck.2
    simp only [mm_one] at h
    split at h
    · rename_i v a st2
      split at h
      · rename_i ci n hS9
        split at h
        · rename_i h9
          obtain ⟨rfl, hn, hf⟩ := h9
          cases h
          refine mm_spf (x := (.nop, ci, x2, w, 0)) (v := .int v) hx hb hown hnm hts hK hP hD hS hok hok2 hd hS9 hn (μ' := (mm_up μ.1 a x2 v, μ.2)) (fun ty ht => ?_) rfl ?_ (fun j hj => ⟨mm_up_slot _ _ _ _ hj, rfl, rfl⟩) (fun b hb' => ⟨mm_up_addr _ _ _ _ hb', rfl, rfl⟩) (fun H1 locs1 hP1 hD1 hS1 => kk σ H1 locs1 cells slots lj mm_ag.rf ⟨hP1, hD1, hS1, hcc, hcs, hE, hSL⟩ hl)
          · rcases hf with hf | ⟨hf, hv⟩
            · simp only [hf] at ht; exact mm_kt_i ht v
            · simp only [hf] at ht; exact mm_kt_z ht hv
          · rw [mm_fv_i σ (by simp only; omega)]
            simp only [mm_up_same]
        · cases h
      · cases h
    · rename_i v a st2
      split at h
      · rename_i ci n hS9
        split at h
        · rename_i h9
          obtain ⟨rfl, hn, hf, hv⟩ := h9
          cases h
          refine mm_spf (x := (.nop, ci, x2, w, 0)) (v := .ref (σ v)) hx hb hown hnm hts hK hP hD hS hok hok2 hd hS9 hn (μ' := (μ.1, mm_up μ.2.1 a x2 v, μ.2.2)) (fun ty ht => ?_) rfl ?_ (fun j hj => ⟨rfl, mm_up_slot _ _ _ _ hj, rfl⟩) (fun b hb' => ⟨rfl, mm_up_addr _ _ _ _ hb', rfl⟩) (fun H1 locs1 hP1 hD1 hS1 => kk σ H1 locs1 cells slots lj mm_ag.rf ⟨hP1, hD1, hS1, hcc, hcs, hE, hSL⟩ hl)
          · simp only [hf] at ht; exact mm_kt_r ht _
          · rw [mm_fv_r σ hf]
            simp only [mm_up_same, mm_rv, if_neg hv, mm_tr]
        · cases h
      · cases h
    · rename_i v a st2
      split at h
      · rename_i ci n hS9
        split at h
        · rename_i h9
          obtain ⟨rfl, hn, hf⟩ := h9
          cases h
          refine mm_spf (x := (.nop, ci, x2, w, 0)) (v := .long v) hx hb hown hnm hts hK hP hD hS hok hok2 hd hS9 hn (μ' := (μ.1, μ.2.1, mm_up μ.2.2.1 a x2 v, μ.2.2.2)) (fun ty ht => ?_) rfl ?_ (fun j hj => ⟨rfl, rfl, mm_up_slot _ _ _ _ hj⟩) (fun b hb' => ⟨rfl, rfl, mm_up_addr _ _ _ _ hb'⟩) (fun H1 locs1 hP1 hD1 hS1 => kk σ H1 locs1 cells slots lj mm_ag.rf ⟨hP1, hD1, hS1, hcc, hcs, hE, hSL⟩ hl)
          · simp only [hf] at ht; exact mm_kt_l ht v
          · rw [mm_fv_l σ hf]
            simp only [mm_up_same]
        · cases h
      · cases h
    · cases h
  case iaload =>
    simp only [mm_one] at h
    split at h
    · rename_i i a st2
      split at h
      · rename_i ha
        subst ha
        split at h
        · cases h
        · rename_i hin
          cases h
          exact va_sld hx hb hE.2.2.2.2.2.2.2.2.1 hE.2.2.2.2.2.2.2.2.2.1 hE.2.2.2.2.2.2.2.2.2.2 hS hin hd (kk σ H locs cells slots lj mm_ag.rf ⟨hP, hD, hS, hcc, hcs, hE, hSL⟩ hl)
      · split at h
        · rename_i t n hS9
          split at h
          · rename_i h9
            obtain ⟨rfl, hin⟩ := h9
            cases h
            exact mm_siald hx hb hK hP hS9 hin hd (kk σ H locs cells slots lj mm_ag.rf ⟨hP, hD, hS, hcc, hcs, hE, hSL⟩ hl)
          · cases h
        · cases h
    · cases h
  case baload =>
    simp only [mm_one] at h
    split at h
    · rename_i i a st2
      split at h
      · rename_i t n hS9
        split at h
        · rename_i h9
          obtain ⟨rfl, hin⟩ := h9
          cases h
          exact mm_szald hx hb hK hP hS9 hin hd (kk σ H locs cells slots lj mm_ag.rf ⟨hP, hD, hS, hcc, hcs, hE, hSL⟩ hl)
        · cases h
      · cases h
    · cases h
  case laload =>
    simp only [mm_one] at h
    split at h
    · rename_i i a st2
      split at h
      · rename_i t n hS9
        split at h
        · rename_i h9
          obtain ⟨rfl, hin⟩ := h9
          cases h
          exact mm_slald hx hb hK hP hS9 hin hd (kk σ H locs cells slots lj mm_ag.rf ⟨hP, hD, hS, hcc, hcs, hE, hSL⟩ hl)
        · cases h
      · cases h
    · cases h
  case arraylength =>
    simp only [mm_one] at h
    split at h
    · rename_i a st2
      split at h
      · rename_i ha
        subst ha
        cases h
        exact va_slen hx hb hE.2.2.2.2.2.2.2.2.1 hE.2.2.2.2.2.2.2.2.2.1 hE.2.2.2.2.2.2.2.2.2.2 hS hd (kk σ H locs cells slots lj mm_ag.rf ⟨hP, hD, hS, hcc, hcs, hE, hSL⟩ hl)
      · split at h
        · rename_i t n hS9
          split at h
          · rename_i ht
            cases h
            exact mm_salen hx hb hK hP hS9 ht hd (kk σ H locs cells slots lj mm_ag.rf ⟨hP, hD, hS, hcc, hcs, hE, hSL⟩ hl)
          · cases h
        · cases h
    · cases h
  case iastore =>
    simp only [mm_one] at h
    split at h
    · rename_i v i a st2
      split at h
      · rename_i t n hS9
        split at h
        · rename_i h9
          obtain ⟨rfl, hin⟩ := h9
          cases h
          exact mm_siast hx hb hK hP hD hS hS9 hin hd (fun H1 locs1 hP1 hD1 hS1 => kk σ H1 locs1 cells slots lj mm_ag.rf ⟨hP1, hD1, hS1, hcc, hcs, hE, hSL⟩ hl)
        · cases h
      · cases h
    · cases h
  case bastore =>
    simp only [mm_one] at h
    split at h
    · rename_i v i a st2
      split at h
      · rename_i t n hS9
        split at h
        · rename_i h9
          obtain ⟨rfl, hin, hv⟩ := h9
          cases h
          exact mm_szast hx hb hK hP hD hS hS9 hin hv hd (fun H1 locs1 hP1 hD1 hS1 => kk σ H1 locs1 cells slots lj mm_ag.rf ⟨hP1, hD1, hS1, hcc, hcs, hE, hSL⟩ hl)
        · cases h
      · cases h
    · cases h
  case lastore =>
    simp only [mm_one] at h
    split at h
    · rename_i v i a st2
      split at h
      · rename_i t n hS9
        split at h
        · rename_i h9
          obtain ⟨rfl, hin⟩ := h9
          cases h
          exact mm_slast hx hb hK hP hD hS hS9 hin hd (fun H1 locs1 hP1 hD1 hS1 => kk σ H1 locs1 cells slots lj mm_ag.rf ⟨hP1, hD1, hS1, hcc, hcs, hE, hSL⟩ hl)
        · cases h
      · cases h
    · cases h
  case invokespecial idx =>
    simp only [mm_ckI, Bool.or_eq_true, Bool.and_eq_true, decide_eq_true_eq] at hck
    simp only [mm_one] at h
    split at h
    · rename_i h0
      have h0' : x1 = 9000 := h0
      subst h0'
      split at h
      · rename_i a st2
        split at h
        · rename_i h8
          cases h
          have hlk9 : Cond.methodLink (mm_ow k) idx Lib.objectInit ∈ mm_TB := by
            rcases hck with hck | ⟨hc1, hck⟩
            · exact absurd hck (by decide)
            · rcases hck with hck | hck
              · exact mm_ckM_link hc1 hck.2
              · exact absurd hck.2.1 (by decide)
          exact mm_sobj hx hb hmj hown hts hlk9 hd (by rw [mm_cats_tr]; exact h8) (by omega) (by omega) (kk σ H locs cells slots lj mm_ag.rf ⟨hP, hD, hS, hcc, hcs, hE, hSL⟩ hl)
        · cases h
      · cases h
    · cases h
  case invokevirtual idx =>
    simp only [mm_ckI, Bool.or_eq_true, Bool.and_eq_true, decide_eq_true_eq] at hck
    obtain ⟨hc1, hc2⟩ := hck
    obtain ⟨⟨adV, hSs⟩, -⟩ := id hE
    have hns : ∀ z : Nat, z = 9001 ∨ z = 9002 → x1 = z → mm_nst (.invokevirtual idx, x1, x2, x3, x4) = 0 := fun z hz e9 => mm_ckM_n0 hc1 (by simp only; omega)
    simp only [mm_one] at h
    split at h
    · rename_i h0
      have h0' : x1 = 9001 := h0
      subst h0'
      split at h
      · rename_i a st2
        split at h
        · rename_i h9
          obtain ⟨ha, hj, h8⟩ := h9
          cases h
          obtain ⟨j, rfl⟩ : ∃ j, a = mm_SB + j := ⟨a - mm_SB, (Nat.add_sub_of_le ha).symm⟩
          rw [Nat.add_sub_cancel_left] at hj
          have hlk9 : Cond.methodLink (mm_ow k) idx yJ0_length_8abf5 ∈ mm_TB := mm_ckM_link hc1 (hns _ (Or.inl rfl) rfl)
          refine vp_callSi (W.runV (C := RJ0) (As := []) (rest := st2.map (mm_tr σ)) ⟨hx, hb, hmj, hown, hts⟩ (sc_len (adK := fun j => σ (mm_SB + j)) (adV := adV) hj) ⟨mm_cb (n := 0) hts (mm_TBc mm_W25) (mm_TBc mm_W6) hlk9 ⟨by decide, by decide, by decide +kernel⟩ ⟨by show 4 + 1 ≤ R.frames; omega, by show 8 + (1 + 11) + 40 * 4 ≤ R.locals; omega⟩, hts _ (mm_TBc mm_W27), hts _ (mm_TBc mm_W28)⟩ ⟨sc_blind, sc_recv hSs hj hS, sc_pre hSs hS hA⟩ rfl rfl rfl rfl (lv_room (by rw [mm_cats_tr]; exact h8)) hd ⟨by show cells + 0 ≤ R.cells; omega, by show slots + 0 ≤ R.slots; omega⟩) (fun r hr9 => ?_)
          subst hr9
          have := kk σ H locs cells slots lj mm_ag.rf ⟨hP, hD, hS, hcc, hcs, hE, hSL⟩ hl
          rw [Nat.add_sub_cancel_left] at this
          exact this
        · cases h
      · cases h
    · split at h
      · rename_i h0
        have h0' : x1 = 9002 := h0
        subst h0'
        split at h
        · rename_i i a st2
          split at h
          · rename_i h9
            obtain ⟨ha, hj, hin, h8⟩ := h9
            cases h
            obtain ⟨j, rfl⟩ : ∃ j, a = mm_SB + j := ⟨a - mm_SB, (Nat.add_sub_of_le ha).symm⟩
            rw [Nat.add_sub_cancel_left] at hj hin
            have hlk9 : Cond.methodLink (mm_ow k) idx yJ0_charAt_5068e ∈ mm_TB := mm_ckM_link hc1 (hns _ (Or.inr rfl) rfl)
            refine vp_callSi (W.runV (C := RJ0) (As := [.int i]) (rest := st2.map (mm_tr σ)) ⟨hx, hb, hmj, hown, hts⟩ (sc_chr (adK := fun j => σ (mm_SB + j)) (adV := adV) hj hin) ⟨mm_cb (n := 1) hts (mm_TBc mm_W26) (mm_TBc mm_W6) hlk9 ⟨by decide, by decide, by decide +kernel⟩ ⟨by show 4 + 1 ≤ R.frames; omega, by show 8 + (2 + 11) + 40 * 4 ≤ R.locals; omega⟩, hts _ (mm_TBc mm_W29), hts _ (mm_TBc mm_W30)⟩ ⟨sc_blind, sc_recv hSs hj hS, sc_pre hSs hS hA⟩ rfl rfl rfl rfl (lv_room (by rw [mm_cats_tr]; exact h8)) hd ⟨by show cells + 0 ≤ R.cells; omega, by show slots + 0 ≤ R.slots; omega⟩) (fun r hr9 => ?_)
            subst hr9
            have := kk σ H locs cells slots lj mm_ag.rf ⟨hP, hD, hS, hcc, hcs, hE, hSL⟩ hl
            rw [Nat.add_sub_cancel_left] at this
            exact this
          · cases h
        · cases h
      · cases h
  case invokestatic idx =>
    simp only [mm_ckI, Bool.or_eq_true, Bool.and_eq_true, decide_eq_true_eq] at hck
    obtain ⟨hc1, hc2⟩ := hck
    have hnst : 9003 ≤ x1 → mm_nst (.invokestatic idx, x1, x2, x3, x4) = 0 := fun h9 => by
      rcases hc2 with h | h
      · exact h.2
      · exfalso
        have := h.2.1
        omega
    simp only [mm_one] at h
    split at h
    · rename_i h0
      have h0' : x1 = 9003 := h0
      subst h0'
      split at h
      · rename_i n dp b sp a st2
        split at h
        · rename_i ta na tb nb hSa hSb
          split at h
          · rename_i h9
            obtain ⟨rfl, rfl, h1, h2, h3, h4, h5, h6⟩ := h9
            cases h
            have hlk9 : Cond.methodLink (mm_ow k) idx arraycopyName ∈ mm_TB := mm_ckM_link hc1 (hnst (by decide))
            exact mm_scpy hx hb hmj hown hts hlk9 (mm_TBc mm_cp1) (mm_TBc mm_cp2) (mm_TBc mm_cp3) hK hP hD hS hSa hSb h1 h2 h3 h4 h5 (by omega) (by rw [mm_cats_tr]; have := mm_nfw; omega) hd (fun H1 locs1 hP1 hD1 hS1 => kk σ H1 locs1 cells slots lj mm_ag.rf ⟨hP1, hD1, hS1, hcc, hcs, hE, hSL⟩ hl)
          · cases h
        · cases h
      · cases h
    · split at h
      · rename_i h0
        have h0' : x1 = 9004 := h0
        subst h0'
        split at h
        · rename_i z w st2
          split at h
          · rename_i h8
            cases h
            have hlk9 : Cond.methodLink (mm_ow k) idx Lib.Math.max.name ∈ mm_TB := mm_ckM_link hc1 (hnst (by decide))
            exact va_mmax hx hb hmj hown (hts _ hlk9) (hts _ (mm_TBc mm_ma1)) (hts _ (mm_TBc mm_ma2)) (hts _ (mm_TBc mm_ma3)) (by omega) (by rw [mm_cats_tr]; omega) (by omega) (by omega) hd (kk σ H locs cells slots lj mm_ag.rf ⟨hP, hD, hS, hcc, hcs, hE, hSL⟩ hl)
          · cases h
        · cases h
      · split at h
        · rename_i h0
          have h0' : x1 = 9005 := h0
          subst h0'
          split at h
          · rename_i z w st2
            split at h
            · rename_i h8
              cases h
              have hlk9 : Cond.methodLink (mm_ow k) idx Lib.Math.min.name ∈ mm_TB := mm_ckM_link hc1 (hnst (by decide))
              exact va_mmin hx hb hmj hown (hts _ hlk9) (hts _ (mm_TBc mm_ma4)) (hts _ (mm_TBc mm_ma2)) (hts _ (mm_TBc mm_ma5)) (by omega) (by rw [mm_cats_tr]; omega) (by omega) (by omega) hd (kk σ H locs cells slots lj mm_ag.rf ⟨hP, hD, hS, hcc, hcs, hE, hSL⟩ hl)
            · cases h
          · cases h
        · split at h
          · rename_i h0
            have h0' : x1 = 9006 := h0
            subst h0'
            split at h
            · rename_i z w st2
              split at h
              · rename_i h8
                cases h
                have hlk9 : Cond.methodLink (mm_ow k) idx Lib.MathLoose.max_long.x ∈ mm_TB := mm_ckM_link hc1 (hnst (by decide))
                exact va_mmax_long hx hb hmj hown (hts _ hlk9) (hts _ (mm_TBc mm_ma6)) (hts _ (mm_TBc mm_ma2)) (hts _ (mm_TBc mm_ma7)) (by omega) (by rw [mm_cats_tr]; omega) (by omega) (by omega) hd (kk σ H locs cells slots lj mm_ag.rf ⟨hP, hD, hS, hcc, hcs, hE, hSL⟩ hl)
              · cases h
            · cases h
          · cases h
  case new idx =>
    simp only [mm_one] at h
    split at h
    · rename_i h9
      obtain ⟨h1, h2, h3, h4, h5⟩ := h9
      simp only [mm_ckI, if_pos h1] at hck
      cases h
      simp only at hrc hrs
      refine mm_snew (x := (.new idx, x1, x2, x3, x4)) (c1 := μ.2.2.2.2.1 + 1) (s1 := μ.2.2.2.2.2 + (mm_fks.getD x1 []).length) hx hb hown hts hK hP hD hS hA hck hd h4 (by omega) (by simp only; omega) (fun q H1 hP1 hD1 hS1 => ?_)
      have hag := mm_ag_push (σ := σ) (n := μ.2.2.2.1.length) (q := q)
      have hSC : μ.2.2.2.1.length + 1 ≤ mm_SC := by simp only [mm_SC]; omega
      have := kk _ H1 locs (cells + 1) (slots + (mm_fks.getD x1 []).length) lj (by simp only [List.length_append, List.length_singleton]; exact hag) ⟨hP1, hD1, hS1, by simp only; omega, by simp only; omega, hE.re hag hSC, by simp only [List.length_append, List.length_singleton]; omega⟩ (hl.re hag hSC h3)
      rw [List.map_cons, mm_trs_ok hag hSC h2] at this
      simp only [mm_tr, if_true] at this
      exact this
    · cases h
  case newarray ty =>
    simp only [mm_one] at h
    simp only [mm_ckI, decide_eq_true_eq] at hck
    split at h
    · rename_i n st2
      split at h
      · rename_i h9
        obtain ⟨h1, h1b, h2, h3, h4, h5⟩ := h9
        split at h
        · rename_i hty
          cases h
          simp only at hrc hrs
          refine mm_snewa (c1 := μ.2.2.2.2.1 + 1) (s1 := μ.2.2.2.2.2 + n.toNatClampNeg) (t := 100) (j := 0) (ty := .int) (f0 := .inl (fun _ => 0)) hx hb hts hK hP hD hS hA (by rw [hty]; exact mm_ac1) hd h4 h1 h1b (by omega) (by omega) hty rfl (by simp [mm_cell]) (fun cA => rfl) (by decide) (fun U cA h => h) (fun q H1 hP1 hD1 hS1 => ?_)
          have hag := mm_ag_push (σ := σ) (n := μ.2.2.2.1.length) (q := q)
          have hSC : μ.2.2.2.1.length + 1 ≤ mm_SC := by simp only [mm_SC]; omega
          have := kk _ H1 locs (cells + 1) (slots + n.toNatClampNeg) lj (by simp only [List.length_append, List.length_singleton]; exact hag) ⟨hP1, hD1, hS1, by simp only; omega, by simp only; omega, hE.re hag hSC, by simp only [List.length_append, List.length_singleton]; omega⟩ (hl.re hag hSC h3)
          rw [List.map_cons, mm_trs_ok hag hSC h2] at this
          simp only [mm_tr, if_true] at this
          exact this
        · rename_i hty
          cases h
          simp only at hrc hrs
          refine mm_snewa (c1 := μ.2.2.2.2.1 + 1) (s1 := μ.2.2.2.2.2 + n.toNatClampNeg) (t := 101) (j := 1) (ty := .boolean) (f0 := .inl (fun _ => 0)) hx hb hts hK hP hD hS hA (by rw [hty]; exact mm_ac2) hd h4 h1 h1b (by omega) (by omega) hty rfl (by simp [mm_cell]) (fun cA => rfl) (by decide) (fun U cA h => h) (fun q H1 hP1 hD1 hS1 => ?_)
          have hag := mm_ag_push (σ := σ) (n := μ.2.2.2.1.length) (q := q)
          have hSC : μ.2.2.2.1.length + 1 ≤ mm_SC := by simp only [mm_SC]; omega
          have := kk _ H1 locs (cells + 1) (slots + n.toNatClampNeg) lj (by simp only [List.length_append, List.length_singleton]; exact hag) ⟨hP1, hD1, hS1, by simp only; omega, by simp only; omega, hE.re hag hSC, by simp only [List.length_append, List.length_singleton]; omega⟩ (hl.re hag hSC h3)
          rw [List.map_cons, mm_trs_ok hag hSC h2] at this
          simp only [mm_tr, if_true] at this
          exact this
        · rename_i hty
          cases h
          simp only at hrc hrs
          refine mm_snewa (c1 := μ.2.2.2.2.1 + 1) (s1 := μ.2.2.2.2.2 + n.toNatClampNeg) (t := 102) (j := 2) (ty := .long) (f0 := .inr (.inl (fun _ => 0))) hx hb hts hK hP hD hS hA (by rw [hty]; exact mm_ac3) hd h4 h1 h1b (by omega) (by omega) hty rfl (by simp [mm_cell]) (fun cA => rfl) (by decide) (fun U cA h => h) (fun q H1 hP1 hD1 hS1 => ?_)
          have hag := mm_ag_push (σ := σ) (n := μ.2.2.2.1.length) (q := q)
          have hSC : μ.2.2.2.1.length + 1 ≤ mm_SC := by simp only [mm_SC]; omega
          have := kk _ H1 locs (cells + 1) (slots + n.toNatClampNeg) lj (by simp only [List.length_append, List.length_singleton]; exact hag) ⟨hP1, hD1, hS1, by simp only; omega, by simp only; omega, hE.re hag hSC, by simp only [List.length_append, List.length_singleton]; omega⟩ (hl.re hag hSC h3)
          rw [List.map_cons, mm_trs_ok hag hSC h2] at this
          simp only [mm_tr, if_true] at this
          exact this
        · cases h
      · cases h
    · cases h
end ST
