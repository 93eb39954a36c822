/-! CALLS: the callee's promise gives the caller's run -/
theorem mm_mokP {k : Nat} (h : k < 279) : plainName (mm_y k).cls = true ∧ (mm_y k).cls = mm_ow k ∧ (mm_y k).cls ≠ "java/lang/invoke/MethodHandle" ∧ (mm_y k).cls ≠ "java/lang/invoke/VarHandle" ∧ mm_rkOk (mm_rk k) (mm_rt k) = true ∧ mm_mx k ≤ 40 ∧ mm_hsOk (mm_hs k) (mm_hh k) = true ∧ mm_nargs k = some (mm_na k) := by
  have h1 := mm_mAll (k := k) (by omega)
  simp only [mm_mok, Bool.and_eq_true, decide_eq_true_eq] at h1
  obtain ⟨⟨⟨⟨⟨⟨a1, a2, a3, a4⟩, a5⟩, a6⟩, a7⟩, a8⟩, -⟩ := h1
  exact ⟨a1, a2, a3, a4, a5, a6, a7, a8⟩
theorem mm_mok0 {k : Nat} (h : k < 279) (hk : mm_kd k = 0) : Cond.instanceMethod (mm_y k) ∈ mm_TB ∧ Cond.initialized (mm_y k).cls ∈ mm_TB ∧ Cond.selects (mm_y k).cls (mm_y k) (mm_y k) ∈ mm_TB ∧ (∃ T N, vwCl[mm_ci k]? = some ((mm_y k).cls, T, N)) ∧ mm_hh k = [] := by
  have h1 := mm_mAll (k := k) (by omega)
  simp only [mm_mok, Bool.and_eq_true, decide_eq_true_eq, hk] at h1
  obtain ⟨-, ⟨⟨⟨a1, a2⟩, a3⟩, a4⟩, a5⟩ := h1
  refine ⟨mm_TBat a1, mm_TBat a2, mm_TBat a3, ?_, a5⟩
  cases hq : vwCl[mm_ci k]? with
  | none => rw [hq] at a4; cases a4
  | some q =>
    rw [hq] at a4
    obtain ⟨C, T, N⟩ := q
    have : C = (mm_y k).cls := Option.some.inj a4
    exact ⟨T, N, by rw [this]⟩
theorem mm_mok1 {k : Nat} (h : k < 279) (hk : mm_kd k = 1) : Cond.static (mm_y k) ∈ mm_TB ∧ Cond.initialized (mm_y k).cls ∈ mm_TB ∧ mm_hh k = [] := by
  have h1 := mm_mAll (k := k) (by omega)
  simp only [mm_mok, Bool.and_eq_true, decide_eq_true_eq, hk] at h1
  obtain ⟨-, ⟨a1, a2⟩, a5⟩ := h1
  exact ⟨mm_TBat a1, mm_TBat a2, a5⟩
theorem mm_mok2 {k : Nat} (h : k < 279) (hk : mm_kd k = 2) : Cond.instanceMethod (mm_y k) ∈ mm_TB ∧ Cond.initialized (mm_y k).cls ∈ mm_TB ∧ (mm_y k).name = "<init>" ∧ mm_rt k = none ∧ mm_hh k = [] := by
  have h1 := mm_mAll (k := k) (by omega)
  simp only [mm_mok, Bool.and_eq_true, decide_eq_true_eq, hk] at h1
  obtain ⟨-, ⟨⟨⟨a1, a2⟩, a3⟩, a4⟩, a5⟩ := h1
  exact ⟨mm_TBat a1, mm_TBat a2, a3, a4, a5⟩
theorem mm_mok3 {k : Nat} (h : k < 279) (hk : mm_kd k = 3) : Cond.static (mm_y k) ∈ mm_TB ∧ Cond.initialized (mm_y k).cls ∈ mm_TB ∧ mm_oc k = 10 := by
  have h1 := mm_mAll (k := k) (by omega)
  simp only [mm_mok, Bool.and_eq_true, decide_eq_true_eq, hk] at h1
  obtain ⟨-, ⟨a1, a2⟩, a5⟩ := h1
  exact ⟨mm_TBat a1, mm_TBat a2, a5⟩
set_option maxRecDepth 20000 in
theorem mm_lo2 {L d z : Nat} (h : 120 * (d + 1) + 600 ≤ L) (hz : z ≤ 40) : 8 + (z + 11) + (120 * d + 600) ≤ L := by omega
section CR
variable {p : Program} {l : Launch} {e : Env} {R : Room} {s : State} {m : MethodId} {args : Array Value} {below : List Frame} {meth : Method} {c : Code} {H : Heap} {locs : List Loc} {cells slots : Nat}
variable {k d pc kk mc ms : Nat} {lj : Array Slot} {σ : Nat → Nat} {kA : Nat → ClassId} {D : va_G} {A : Nat → Prop} {G : mm_G} {c0 s0 : Nat} {x : mm_I} {st av rest : List Value} {μ : mm_M} {q : mm_R}
theorem mm_freeA (hD : va_D A (mm_wld σ kA μ)) (hS : va_S A s.heap H locs) (hA : ∀ q, s.heap.size ≤ q → A q) : ∀ z, va_A (mm_wld σ kA μ) H.size z → A z := by
  intro z h
  rcases h with ⟨j, ee, h⟩ | h
  · exact hD.2 j (z, ee) h
  · exact hA z (Nat.le_trans hS.1 h)
theorem mm_pre (I : mm_In D kA A G s c0 s0 σ μ H locs cells slots) (hK : va_K D vwCl (mm_tys kA) s) (hA : ∀ q, s.heap.size ≤ q → A q) : ∀ U : State, U.heap = H → s.WarmedH U.vm → mm_Pc D kA σ G μ H.size av (av.map (mm_tr σ)).toArray U := by
  obtain ⟨hP, hD, hS, -, -, hE, hSL⟩ := I
  intro U hU hW
  refine ⟨rfl, by rw [hU], by rw [hU]; exact hP, va_K.moved hW.alike hK, hD.weaken (fun _ _ _ _ => trivial), ?_, hSL⟩
  rw [hU]
  exact ((hE.kept hS.1 hS.2.1).warm hW).narrow (mm_freeA hD hS hA)
theorem mm_cwdC {k : Nat} (h : ¬ mm_kd k = 3) : mm_cwd k = .code (mm_y k) (mm_c k) (mm_mx k) (mm_rt k) := by simp only [mm_cwd, if_neg h]
theorem mm_cwdW {k : Nat} (h : mm_kd k = 3) : mm_cwd k = .codeWith (mm_y k) (mm_c k) (mm_mx k) (mm_rt k) (mm_hh k) := by simp only [mm_cwd, if_pos h]
theorem mm_yS9 {k : Nat} (h : k < 9000) : mm_yS k = mm_y k := by
  simp only [mm_yS]
  rw [if_neg (by omega), if_neg (by omega), if_neg (by omega), if_neg (by omega), if_neg (by omega), if_neg (by omega), if_neg (by omega)]
set_option maxHeartbeats 4000000 in
theorem mm_callRun (C : mm_Cx p l R s m args meth c k (d + 1) D kA A) (I : mm_In D kA A G s c0 s0 σ μ H locs cells slots)
    (hM : vx_Met l (mm_y kk) (mm_Wk kk) (mm_rm d mc ms) (mm_Pc D kA σ G μ H.size av) (mm_Qc D kA σ μ (va_A (mm_wld σ kA μ) H.size) q) (mm_XC D kA σ μ (va_A (mm_wld σ kA μ) H.size) q) mc ms (va_A (mm_wld σ kA μ) H.size))
    (hck : mm_ckI k pc x = true) (hd : decode (mm_c k) pc = .ok (x.1, mm_len x.1)) (hcall : mm_call x st μ = some (kk, av, rest)) (hthr : (∃ v, q.1 = .inl v) ∨ ∃ idx, x.1 = .invokevirtual idx) (hroom : cells + mc ≤ R.cells ∧ slots + ms ≤ R.slots) (hmj : c.maxLocals = lj.size) :
    vx_Run p l e R s m args below meth c H locs cells slots mc ms (F0 m pc lj (st.map (mm_tr σ))) (rest.map (mm_tr σ)) (mm_Qc D kA σ μ (va_A (mm_wld σ kA μ) H.size) q (av.map (mm_tr σ)).toArray) (mm_XC D kA σ μ (va_A (mm_wld σ kA μ) H.size) q) (va_A (mm_wld σ kA μ) H.size) := by
  obtain ⟨hx, hb, hml, hown, hnm, hts, hK, hA, hst, hlk, htab, hfr, hlo⟩ := C
  have hpre := mm_pre (av := av) I hK hA
  obtain ⟨hP, hD, hS, hcc, hcs, hE, hSL⟩ := I
  have hfr2 : (mm_rm d mc ms).frames + 1 ≤ R.frames := by simp only [mm_rm]; omega
  have hlo2 : ∀ z, z ≤ 40 → 8 + (z + 11) + (mm_rm d mc ms).locals ≤ R.locals := fun z hz => mm_lo2 hlo hz
  have hXF : (∃ v, q.1 = .inl v) → ∀ E st t, ¬ mm_XC D kA σ μ (va_A (mm_wld σ kA μ) H.size) q E st t := by
    rintro ⟨v, hv⟩ E st t ⟨E0, σ', h1, -⟩
    rw [hv] at h1
    cases h1
  obtain ⟨i, x1, x2, x3, x4⟩ := x
  cases i <;> (first | (exfalso; simp only [mm_call] at hcall; cases hcall; done) | skip)
  case invokevirtual idx =>
    simp only [mm_call] at hcall
    split at hcall
    · rename_i h9
      obtain ⟨h1, h2, h3⟩ := h9
      split at hcall
      · rename_i a vs hrev
        split at hcall
        · rename_i ci n hS9
          split at hcall
          · rename_i h4
            obtain ⟨h4, h5⟩ := h4
            cases hcall
            simp only [mm_ckI, Bool.or_eq_true, Bool.and_eq_true, decide_eq_true_eq] at hck
            obtain ⟨hc1, hc2⟩ := hck
            rcases hc2 with hc2 | ⟨g1, g2, g3, g4, -⟩
            · omega
            obtain ⟨b1, b2, b3, b4, -, b5, -, b6⟩ := mm_mokP g2
            obtain ⟨w1, w2, w3, ⟨T, N, w4⟩, -⟩ := mm_mok0 g2 g1
            have hlink := mm_ckM_link hc1 g4
            rw [mm_yS9 h1] at hlink
            have hcw := mm_cwAll g2
            rw [mm_cwdC (by omega)] at hcw
            unfold mm_Wk at hM
            rw [mm_cwdC (by omega)] at hM
            have hlen : vs.length = mm_na kk := by
              have := congrArg List.length hrev
              simp only [List.length_reverse, List.length_take, List.length_cons] at this
              omega
            have he := mm_wld_at (σ := σ) (kA := kA) hS9
            have h9c := mm_ci9 w4
            rw [show mm_cell σ kA μ a (ci, n) = .inr (ci, (List.range n).map (fun i => mm_fv σ (mm_fk ci i) (μ.1 a i) (μ.2.1 a i) (μ.2.2.1 a i))) by simp only [mm_cell]; rw [if_neg (by omega), if_neg (by omega)]] at he
            rw [← h4] at w4
            refine vx_runV (C := (mm_y kk).cls) (b := σ a) (As := vs.map (mm_tr σ)) (n := mm_na kk) (nL := lj.size) ⟨hx, hb, hmj, hown, hts⟩ hM ⟨mm_cb (rm := mm_rm d mc ms) hts hcw w2 hlink ⟨b3, b4, b6⟩ ⟨hfr2, hlo2 _ b5⟩, hts _ w1, hts _ w3⟩ ⟨mm_Pc_blind, va_recv hK hP w4 he, hpre⟩ rfl (by rw [List.length_map]; exact hlen) rfl ?_ (lv_room (by rw [mm_cats_tr]; exact h3)) hd hroom
            have ht : st.take x2 = vs.reverse ++ [.ref a] := by
              have := congrArg List.reverse hrev
              simpa using this
            show st.map (mm_tr σ) = _
            conv => lhs; rw [← List.take_append_drop x2 st, ht]
            simp [mm_tr]
          · cases hcall
        · cases hcall
      · cases hcall
    · cases hcall
  case invokespecial idx =>
    have hin : ∃ v, q.1 = .inl v := by
      rcases hthr with h | ⟨z, h⟩
      · exact h
      · cases h
    simp only [mm_call] at hcall
    split at hcall
    · rename_i h9
      obtain ⟨h1, h2, h3⟩ := h9
      split at hcall
      · rename_i a vs hrev
        split at hcall
        · rename_i h5
          cases hcall
          simp only [mm_ckI, Bool.or_eq_true, Bool.and_eq_true, decide_eq_true_eq] at hck
          rcases hck with hck | ⟨hc1, hc2⟩
          · omega
          rcases hc2 with hc2 | ⟨g1, g2, g3, -⟩
          · omega
          obtain ⟨b1, b2, b3, b4, -, b5, -, b6⟩ := mm_mokP g2
          obtain ⟨w1, w2, w3, w4, -⟩ := mm_mok2 g2 g1
          have hcw := mm_cwAll g2
          rw [mm_cwdC (by omega)] at hcw
          unfold mm_Wk at hM
          rw [mm_cwdC (by omega)] at hM
          have hM2 := mm_toMet hM (hXF hin)
          have hlen : vs.length = mm_na kk := by
            have := congrArg List.length hrev
            simp only [List.length_reverse, List.length_take, List.length_cons] at this
            omega
          have ht : st.take x2 = vs.reverse ++ [.ref a] := by
            have := congrArg List.reverse hrev
            simpa using this
          have hstk : st.map (mm_tr σ) = (vs.map (mm_tr σ)).reverse ++ .ref (σ a) :: (st.drop x2).map (mm_tr σ) := by
            conv => lhs; rw [← List.take_append_drop x2 st, ht]
            simp [mm_tr]
          rw [w4] at hM2 hcw
          by_cases hn0 : mm_nst (.invokespecial idx, kk, x2, x3, x4) = 0
          · have hlink := mm_ckM_link hc1 hn0
            rw [mm_yS9 h1] at hlink
            exact mm_vxOf (va_runI (b := σ a) (As := vs.map (mm_tr σ)) (n := mm_na kk) (nL := lj.size) ⟨hx, hb, hmj, hown, hts⟩ hM2 ⟨mm_cb (rm := mm_rm d mc ms) hts hcw w2 hlink ⟨b3, b4, b6⟩ ⟨hfr2, hlo2 _ b5⟩, w3, hts _ w1⟩ ⟨mm_Pc_blind, hpre⟩ rfl (by rw [List.length_map]; exact hlen) rfl hstk (lv_room (by rw [mm_cats_tr]; exact h3)) hd hroom)
          · have hlink := hE.2.2.2.2.2.1 _ (mm_ckM_nest hc1 hn0)
            rw [mm_yS9 h1] at hlink
            exact mm_vxOf (va_runIN (b := σ a) (As := vs.map (mm_tr σ)) (n := mm_na kk) (nL := lj.size) ⟨hx, hb, hmj, hown, hts⟩ hM2 ⟨va_cnB (Ts := mm_TB) (rm := mm_rm d mc ms) (mm_na kk) hts (mm_goodC hcw) rfl rfl rfl hlink (hts _ w2) ⟨b3, b4, b6⟩ ⟨hfr2, hlo2 _ b5⟩, w3, hts _ w1⟩ ⟨mm_Pc_blind, hpre⟩ rfl (by rw [List.length_map]; exact hlen) rfl hstk (lv_room (by rw [mm_cats_tr]; exact h3)) hd hroom)
        · cases hcall
      · cases hcall
    · cases hcall
  case invokestatic idx =>
    have hin : ∃ v, q.1 = .inl v := by
      rcases hthr with h | ⟨z, h⟩
      · exact h
      · cases h
    simp only [mm_call] at hcall
    split at hcall
    · rename_i h9
      obtain ⟨h1, h2, h3, h5⟩ := h9
      cases hcall
      simp only [mm_ckI, Bool.or_eq_true, Bool.and_eq_true, decide_eq_true_eq] at hck
      obtain ⟨hc1, hc2⟩ := hck
      rcases hc2 with hc2 | ⟨g1, g2, g3, -⟩
      · omega
      obtain ⟨b1, b2, b3, b4, -, b5, -, b6⟩ := mm_mokP g2
      have hcw := mm_cwAll g2
      have hlen : ((st.take x2).reverse.map (mm_tr σ)).length = mm_na kk := by
        simp only [List.length_map, List.length_reverse, List.length_take]
        omega
      have hstk : st.map (mm_tr σ) = ((st.take x2).reverse.map (mm_tr σ)).reverse ++ (st.drop x2).map (mm_tr σ) := by
        conv => lhs; rw [← List.take_append_drop x2 st]
        simp
      unfold mm_Wk at hM
      rcases g1 with g1 | ⟨g1, hn0⟩
      · obtain ⟨w1, w2, -⟩ := mm_mok1 g2 g1
        rw [mm_cwdC (by omega)] at hcw hM
        by_cases hn0 : mm_nst (.invokestatic idx, kk, x2, x3, x4) = 0
        · have hlink := mm_ckM_link hc1 hn0
          rw [mm_yS9 h1] at hlink
          exact vx_runS (As := (st.take x2).reverse.map (mm_tr σ)) (n := mm_na kk) (nL := lj.size) ⟨hx, hb, hmj, hown, hts⟩ hM ⟨mm_cb (rm := mm_rm d mc ms) hts hcw w2 hlink ⟨b3, b4, b6⟩ ⟨hfr2, hlo2 _ b5⟩, hts _ w1⟩ ⟨mm_Pc_blind, hpre⟩ rfl hlen rfl hstk (lv_room (by rw [mm_cats_tr]; exact h3)) hd hroom
        · have hlink := hE.2.2.2.2.2.1 _ (mm_ckM_nest hc1 hn0)
          rw [mm_yS9 h1] at hlink
          exact mm_vxOf (va_runSN (As := (st.take x2).reverse.map (mm_tr σ)) (n := mm_na kk) (nL := lj.size) ⟨hx, hb, hmj, hown, hts⟩ (mm_toMet hM (hXF hin)) ⟨va_cnB (Ts := mm_TB) (rm := mm_rm d mc ms) (mm_na kk) hts (mm_goodC hcw) rfl rfl rfl hlink (hts _ w2) ⟨b3, b4, b6⟩ ⟨hfr2, hlo2 _ b5⟩, hts _ w1, trivial⟩ ⟨mm_Pc_blind, hpre⟩ rfl hlen rfl hstk (lv_room (by rw [mm_cats_tr]; exact h3)) hd hroom)
      · obtain ⟨w1, w2, -⟩ := mm_mok3 g2 g1
        rw [mm_cwdW g1] at hcw hM
        have hlink := mm_ckM_link hc1 hn0
        rw [mm_yS9 h1] at hlink
        refine vx_runSX (hh := mm_hh kk) (As := (st.take x2).reverse.map (mm_tr σ)) (n := mm_na kk) (nL := lj.size) ⟨hx, hb, hmj, hown, hts⟩ hM ⟨⟨rfl, rfl, hfr2, hlo2 _ b5, pay_in hts (mm_goodC hcw), List.mem_cons_self⟩, hts _ hcw, hts _ w2, ⟨b3, b4⟩, fun sig h => ?_, hts _ hlink, hts _ w1⟩ ⟨mm_Pc_blind, hpre⟩ rfl hlen rfl hstk (lv_room (by rw [mm_cats_tr]; exact h3)) hd hroom
        have h2' := b6
        simp only [mm_nargs, h, Option.map_some] at h2'
        exact (Option.some.inj h2').symm
    · cases hcall
end CR
