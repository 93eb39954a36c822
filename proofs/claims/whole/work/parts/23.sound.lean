/-! SOUNDNESS: what the small machine computes, the machine does -/
def mm_thX (E : Nat) : Nat := if E = 0 then 13 else 7
def mm_thB (E : Nat) : ByteArray := if E = 0 then prog_27_method_4_code else prog_16_method_2_code
def mm_thI (E : Nat) : Nat := if E = 0 then 140 else 88
def mm_thC (E : Nat) : Nat := if E = 0 then 144 else 92
def mm_thA (E : Nat) : List Cond := mx_at RX8 (mm_thC E) (mm_EN E) "java/lang/RuntimeException" ["java/lang/Exception"] (mm_thX E) (mm_thB E)
def mm_thW (E : Nat) : Bool := mm_contains (.classLink RX8 (mm_thI E) (mm_EN E)) && mm_contains (.initialized (mm_EN E)) && (mm_thA E).all (fun w => lw_tbl.contains w && (goodWord w || mm_isN w)) && (Cond.classLink RX8 (mm_thI E) (mm_EN E) :: Cond.initialized (mm_EN E) :: mm_thA E).all vx_ot && Bundle.fit (mm_EN E)
theorem mm_thW0 : mm_thW 0 = true := by decide +kernel
theorem mm_thW1 : mm_thW 1 = true := by decide +kernel
theorem mm_thWE {E : Nat} (h : E < 2) : mm_thW E = true := by
  rcases (show E = 0 ∨ E = 1 by omega) with rfl | rfl
  · exact mm_thW0
  · exact mm_thW1
theorem mm_thD {E : Nat} (h : E < 2) : decode (mm_thB E) 0 = .ok (.aload_n 0, 1) ∧ decode (mm_thB E) 1 = .ok (.aload_n 1, 1) ∧ decode (mm_thB E) 2 = .ok (.invokespecial (mm_thX E), 3) ∧ decode (mm_thB E) 5 = .ok (.return_, 1) := by
  rcases (show E = 0 ∨ E = 1 by omega) with rfl | rfl
  · exact ⟨by decide +kernel, by decide +kernel, by decide +kernel, by decide +kernel⟩
  · exact ⟨by decide +kernel, by decide +kernel, by decide +kernel, by decide +kernel⟩
theorem mm_fits : ∀ n ∈ ["java/lang/Exception"], Bundle.fit n = true := by decide +kernel
theorem mm_fitR : Bundle.fit "java/lang/RuntimeException" = true := by decide +kernel
theorem mm_msgL : mm_msg.length < 1000 := by decide
section TW
variable {p : Program} {l : Launch} {e : Env} {R : Room} {s : State} {m : MethodId} {args : Array Value} {below : List Frame} {meth : Method} {c : Code} {H : Heap} {locs : List Loc} {cells slots mc ms : Nat}
variable {k d pc : Nat} {lj : Array Slot} {σ : Nat → Nat} {kA : Nat → ClassId} {D : va_G} {A : Nat → Prop} {G : mm_G} {c0 s0 : Nat} {Qc : Array Value → State → Outcome → State → Prop} {XC : String → State → State → Prop} {free : Addr → Prop}
set_option maxHeartbeats 4000000 in
set_option maxRecDepth 20000 in
theorem mm_thrW {x : mm_I} {st : List Value} {E : Nat} {μ : mm_M} (C : mm_Cx p l R s m args meth c k d D kA A) (I : mm_In D kA A G s c0 s0 σ μ H locs cells slots) (h : mm_thr x st = some E) (hck : mm_ckI k pc x = true) (hd : decode (mm_c k) pc = .ok (x.1, 3)) (hsz : lj.size = c.maxLocals)
    (hX : ∀ t : State, s.vm.Alike t.vm → H.size ≤ t.heap.size → (∀ q : Nat, q < H.size → t.heap[q]? = H[q]?) → XC (mm_EN E) s t) (hf : ∀ z ∈ locs, free z.base) (hRc : cells + 1 ≤ R.cells) (hRs : slots + 6 ≤ R.slots) (hc : cells + 1 ≤ mc) (hs : slots + 6 ≤ ms) :
    W p l e R s m args below meth c H locs cells slots (vx_MQ below Qc XC args s mc ms free) (F0 m pc lj (st.map (mm_tr σ))) := by
  obtain ⟨hx, hb, hml, hown, hnm, hts, hK, hA, hstl, hlk, htab, hfr, hlo⟩ := C
  obtain ⟨hP, hD, hS, hcc, hcs, hE, hSL⟩ := I
  obtain ⟨i, x1, x2, x3, x4⟩ := x
  cases i <;> (first | (exfalso; simp only [mm_thr] at h; cases h; done) | skip)
  case new idx =>
    simp only [mm_thr] at h
    split at h
    · rename_i h9
      obtain ⟨g1, g2, g3⟩ := h9
      cases h
      simp only [mm_ckI] at hck
      rw [if_neg (by omega)] at hck
      simp only [mm_thOk] at hck
      split at hck
      · rename_i ik j ic wd hsite
        split at hck
        · rename_i is tx hmsg
          simp only [Bool.and_eq_true, decide_eq_true_eq] at hck
          obtain ⟨⟨⟨⟨k1, k2, k3⟩, k4⟩, k5⟩, k6⟩ := hck
          have hE2 : x1 - 900 < 2 := by omega
          have hI : ik = mm_thI (x1 - 900) ∧ ic = mm_thC (x1 - 900) := by
            rcases k2 with ⟨q1, q2, q3⟩ | ⟨q1, q2, q3⟩
            · subst q1; exact ⟨q2, q3⟩
            · subst q1; exact ⟨q2, q3⟩
          have hW := mm_thWE hE2
          simp only [mm_thW, Bool.and_eq_true] at hW
          obtain ⟨⟨⟨⟨w1, w2⟩, w3⟩, w4⟩, w5⟩ := hW
          obtain ⟨b0, b1, b2, b5⟩ := mm_thD hE2
          have how : s.vm.findClass RX8 = some m.cls := by rw [mm_ow, k3] at hown; exact hown
          obtain ⟨sa, hsa⟩ := hE.2.2.1 (is, tx) (List.mem_of_getElem? hmsg)
          have hat : ∀ w ∈ mm_thA (x1 - 900), w.before args s = true := fun w hw => by
            have h9 := List.all_eq_true.mp w3 w hw
            simp only [Bool.and_eq_true, Bool.or_eq_true, List.contains_iff_mem] at h9
            rcases h9.2 with h8 | h8
            · exact hts w (List.mem_filter.mpr ⟨h9.1, h8⟩)
            · exact va_Nw.use (mm_isN_tab h8) (hE.2.2.2.2.2.1 w (List.mem_filter.mpr ⟨h9.1, h8⟩))
          have hgood : ∀ w ∈ Cond.classLink RX8 (mm_thI (x1 - 900)) (mm_EN (x1 - 900)) :: Cond.initialized (mm_EN (x1 - 900)) :: mm_thA (x1 - 900), vx_ot w = true := fun w hw => List.all_eq_true.mp w4 w hw
          have hout : ∀ z pc9, z ∈ c.exceptionTable.toList → covers z pc9 = false := fun z pc9 hz => by
            rw [htab, k6] at hz
            cases hz
          obtain ⟨rfl, rfl⟩ := hI
          subst k1
          by_cases hwd : wd = 0
          · rw [if_pos hwd] at k5
            simp only [Bool.and_eq_true, decide_eq_true_eq] at k5
            exact mx_throwS (own := RX8) (cls := mm_EN (x1 - 900)) (sup := "java/lang/RuntimeException") (text := tx) (names := ["java/lang/Exception"]) (ix := mm_thX (x1 - 900)) (bt := mm_thB (x1 - 900)) (A := A) hx hb hstl how w5 mm_fitR b0 b1 b2 b5 mm_fits (hts _ (mm_TBc w1)) (hts _ (mm_TBc w2)) hsa hat hgood hE.2.2.2.1 hE.2.2.2.2.1 hS hsz hd k4 k5.1.1 k5.1.2 k5.2 (fun z hz => hout z _ hz) (by show 1 + 4 < R.frames; omega) (by rw [mm_cats_tr]; show _ + (13 * (1 + 2) + 43) ≤ R.locals; omega) hRc hRs hlk hX hf hc hs
          · rw [if_neg hwd] at k5
            simp only [Bool.and_eq_true, decide_eq_true_eq] at k5
            exact mx_throwSW (own := RX8) (cls := mm_EN (x1 - 900)) (sup := "java/lang/RuntimeException") (text := tx) (names := ["java/lang/Exception"]) (ix := mm_thX (x1 - 900)) (bt := mm_thB (x1 - 900)) (A := A) hx hb hstl how w5 mm_fitR b0 b1 b2 b5 mm_fits (hts _ (mm_TBc w1)) (hts _ (mm_TBc w2)) hsa hat hgood hE.2.2.2.1 hE.2.2.2.2.1 hS hsz hd k4 k5.1.1 k5.1.2 k5.2 (fun z hz => hout z _ hz) (by show 1 + 4 < R.frames; omega) (by rw [mm_cats_tr]; show _ + (13 * (1 + 2) + 43) ≤ R.locals; omega) hRc hRs hlk hX hf hc hs
        · cases hck
      · cases hck
    · cases h
end TW
theorem mm_ent_len {mx : Nat} {av : List Value} (h : (mm_ent1 av).length ≤ mx) : (mm_ent mx av).length = mx := by
  simp only [mm_ent, List.length_append, List.length_replicate]
  omega
theorem mm_hs_nil {k : Nat} (hk : k < 280) (h : mm_hs k = []) : mm_hh k = [] := by
  have h1 := mm_hsOkA hk
  rw [h] at h1
  cases hq : mm_hh k with
  | nil => rfl
  | cons z tl => rw [hq] at h1; simp [mm_hsOk] at h1
set_option maxHeartbeats 8000000 in
set_option maxRecDepth 20000 in
theorem mm_sound (G : mm_G) (hCA : ∀ k, k < 280 → mm_okm k = true) : ∀ n, mm_Snd G n := by
  intro n
  induction n using Nat.strongRecOn with
  | ind n IH =>
    intro d k av μ res hk hent hrun l D kA σ sz hst
    have hk2 : k < 280 := by omega
    obtain ⟨b1, b2, b3, b4, b5, b6, b7, b8⟩ := mm_mokP hk
    have hle := mm_run_le G _ _ _ _ _ _ _ _ hrun
    have hcwd := mm_cwAll hk
    have body : ∀ (p : Program) (e : Env) (s : State) (m : MethodId) (args : Array Value) (below : List Frame) (meth : Method) (c : Code), p.tables.exec = Jvm.exec → c.code = mm_c k → c.maxLocals = mm_mx k → s.vm.findClass (mm_y k).cls = some m.cls → meth.name = (mm_y k).name → (∀ w ∈ mm_TB, w.before args s = true) → meth.locks = false → meth.sig.returnType = mm_rt k → c.exceptionTable.toList = tableOf (mm_hh k) →
        mm_Pc D kA σ G μ sz av args s → W p l e (mm_rm d (res.2.2.2.2.2.1 - μ.2.2.2.2.1) (res.2.2.2.2.2.2 - μ.2.2.2.2.2)) s m args below meth c s.heap [] 0 0 (vx_MQ below (mm_Qc D kA σ μ (va_A (mm_wld σ kA μ) sz) res) (mm_XC D kA σ μ (va_A (mm_wld σ kA μ) sz) res) args s (res.2.2.2.2.2.1 - μ.2.2.2.2.1) (res.2.2.2.2.2.2 - μ.2.2.2.2.2) (va_A (mm_wld σ kA μ) sz)) (entryFrame m args (mm_mx k)) := by
      intro p e s m args below meth c hx hb hml hown hnm hts hlk hr htab hv
      obtain ⟨rfl, hsz, hP, hK, hD0, hE, hSL⟩ := hv
      have hD := hD0.self (sz := sz)
      have hA : ∀ q, s.heap.size ≤ q → va_A (mm_wld σ kA μ) sz q := fun q h => Or.inr (by rw [← hsz]; exact h)
      have C : mm_Cx p l (mm_rm d (res.2.2.2.2.2.1 - μ.2.2.2.2.1) (res.2.2.2.2.2.2 - μ.2.2.2.2.2)) s m (av.map (mm_tr σ)).toArray meth c k d D kA (va_A (mm_wld σ kA μ) sz) := ⟨hx, hb, hml, by rw [← b2]; exact hown, hnm, hts, hK, hA, hst, hlk, htab, Nat.le_refl _, Nat.le_refl _⟩
      have hl := lv_entry (av.map (mm_tr σ)) (n := mm_mx k) (by rw [mm_sl_len, ← mm_ent1_len]; exact hent)
      rw [lg_entry_eq]
      generalize (lg_sl (av.map (mm_tr σ)) ++ List.replicate (mm_mx k - (lg_sl (av.map (mm_tr σ))).length) Slot.unset).toArray = lj at hl ⊢
      refine mm_frame (c0 := μ.2.2.2.2.1) (s0 := μ.2.2.2.2.2) (n0 := μ.2.2.2.1.length) (σ0 := σ) (res := res) IH C hk2 (hCA k hk2) ?_ ?_ ?_ ?_ ?_ n (Nat.le_refl _) (mm_blk k 0) (mm_ent (mm_mx k) av) [] μ 0 σ s.heap [] 0 0 lj hrun (mm_blk_ok (hCA k hk2)) ⟨hP, hD, va_S.rf, Nat.zero_add _, Nat.zero_add _, hE, hSL⟩ (mm_LV.entry hent hl) (mm_ent_len hent) (Nat.le_refl _) mm_ag.rf
      · show _ ≤ μ.2.2.2.2.1 + (res.2.2.2.2.2.1 - μ.2.2.2.2.1)
        have := hle.1
        omega
      · show _ ≤ μ.2.2.2.2.2 + (res.2.2.2.2.2.2 - μ.2.2.2.2.2)
        have := hle.2.1
        omega
      · intro v x st pc σ' H locs cells slots lj' hv hret hd I hag
        obtain ⟨hP', hD', hS', hcc, hcs, hE', hSL'⟩ := I
        have e1 : cells = res.2.2.2.2.2.1 - μ.2.2.2.2.1 := by omega
        have e2 : slots = res.2.2.2.2.2.2 - μ.2.2.2.2.2 := by omega
        subst e1
        subst e2
        refine vx_ret (mm_retW hx hb hlk hr b5 hret hd (fun t ht hW => ?_) hS'.2.2)
        exact ⟨v, σ', hv, hag, rfl, by rw [ht]; exact hP', hD', hS'.F ht⟩
      · intro E x st pc σ' μ' H locs cells slots lj' hres hthr hck hd I hag hsz9
        obtain ⟨-, -, hE2⟩ := mm_sw_thr hthr
        obtain ⟨hP', hD', hS', hcc, hcs, hE', hSL'⟩ := id I
        have r1 : res.2.2.2.2.2.1 = μ'.2.2.2.2.1 + 1 := by rw [hres]
        have r2 : res.2.2.2.2.2.2 = μ'.2.2.2.2.2 + 6 := by rw [hres]
        refine mm_thrW C I hthr hck hd hsz9 (fun t hal hz hq => ?_) hS'.2.2 ?_ ?_ ?_ ?_
        · refine ⟨E, σ', by rw [hres], hE2, rfl, by rw [hres]; exact hag, ?_, ?_, ⟨Nat.le_trans hS'.1 hz, fun q h1 h2 => (hq q (Nat.lt_of_lt_of_le h1 hS'.1)).trans (hS'.2.1 q h1 h2)⟩⟩
          · rw [hres]
            exact va_P.kept (ws := mm_wld σ' kA μ') hP' (fun j z hz9 => hq _ ((hP' j z hz9).lt))
          · rw [hres]
            exact hD'
        · show cells + 1 ≤ res.2.2.2.2.2.1 - μ.2.2.2.2.1
          omega
        · show slots + 6 ≤ res.2.2.2.2.2.2 - μ.2.2.2.2.2
          omega
        · omega
        · omega
      · intro E pc σ' H locs cells slots lj' rest q ce hres hE2 hhs hcell hcv hcl I hag
        obtain ⟨hP', hD', hS', hcc, hcs, hE', hSL'⟩ := I
        refine vx_out (E := mm_EN E) (ce := ce) (fun z hz => ?_) hlk hcell hcv hcl (fun t ht hal => ?_) hS'.2.2 (by omega) (by omega)
        · rw [htab, mm_hs_nil hk2 hhs] at hz
          cases hz
        · exact ⟨E, σ', hres, hE2, rfl, hag, by rw [ht]; exact hP', hD', hS'.F ht⟩
    by_cases h3 : mm_kd k = 3
    · have hcw := hcwd
      rw [mm_cwdW h3] at hcw
      refine vx_ofWH (hh := mm_hh k) (cc := mm_c k) (maxL := mm_mx k) (ret := mm_rt k) (ws' := mm_TB) b1 (by rw [mm_Wk, mm_cwdW h3]) ?_
      intro p e s m args below meth c s₁ B hml hP
      have hts : ∀ w ∈ mm_Wk k, w.before args s = true := atoms_spec (ws := mm_Wk k) B.pre
      exact body p e s m args below meth c B.exec B.bytes hml (findClass_of_methodNamed B.named) (name_of_methodNamed B.named B.method).1 (fun w h => hts w (List.mem_cons_of_mem _ h)) B.notSynchronized B.returns (vx_table (x := mm_y k) B (hts _ (by rw [mm_Wk, mm_cwdW h3]; exact List.mem_cons_self))) hP
    · have hhn : mm_hh k = [] := by
        by_cases hz : mm_hh k = []
        · exact hz
        · exfalso
          have h9 := mm_mAll hk2
          simp only [mm_mok, Bool.and_eq_true, decide_eq_true_eq] at h9
          obtain ⟨-, h2⟩ := h9
          split at h2
          · simp only [Bool.and_eq_true, decide_eq_true_eq] at h2; exact hz h2.2
          · simp only [Bool.and_eq_true, decide_eq_true_eq] at h2; exact hz h2.2
          · simp only [Bool.and_eq_true, decide_eq_true_eq] at h2; exact hz h2.2
          · rename_i h8; exact h3 h8
          · simp only [decide_eq_true_eq] at h2; exact hz h2
          · cases h2
      refine vx_ofW (cc := mm_c k) (maxL := mm_mx k) (ret := mm_rt k) (ws' := mm_TB) b1 (by rw [mm_Wk, mm_cwdC h3]) ?_
      intro p e s m args below meth c s₁ B hml ht hP
      have hts : ∀ w ∈ mm_Wk k, w.before args s = true := atoms_spec (ws := mm_Wk k) B.pre
      refine body p e s m args below meth c B.exec B.bytes hml (findClass_of_methodNamed B.named) (name_of_methodNamed B.named B.method).1 (fun w h => hts w (List.mem_cons_of_mem _ h)) B.notSynchronized B.returns ?_ hP
      rw [hhn]
      show c.exceptionTable.toList = []
      cases hq : c.exceptionTable.toList with
      | nil => rfl
      | cons z tl => exact absurd (by rw [hq]; exact List.mem_cons_self) (ht z)
