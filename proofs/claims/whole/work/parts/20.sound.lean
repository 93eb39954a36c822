section FR
variable {p : Program} {l : Launch} {e : Env} {R : Room} {s : State} {m : MethodId} {args : Array Value} {below : List Frame} {meth : Method} {c : Code} {Q : State → Prop}
variable {k d : Nat} {kA : Nat → ClassId} {D : va_G} {A : Nat → Prop} {G : mm_G} {c0 s0 n0 : Nat} {σ0 : Nat → Nat} {res : mm_R}
set_option maxHeartbeats 8000000 in
set_option maxRecDepth 20000 in
theorem mm_frame {N : Nat} (IH : ∀ j, j < N → mm_Snd G j) (C : mm_Cx p l R s m args meth c k d D kA A) (hk : k < 280) (hC : mm_okm k = true) (hrc : res.2.2.2.2.2.1 ≤ c0 + R.cells) (hrs : res.2.2.2.2.2.2 ≤ s0 + R.slots)
    (HR : ∀ (v : Option Value) (x : mm_I) (st : List Value) (pc : Nat) (σ : Nat → Nat) (H : Heap) (locs : List Loc) (cells slots : Nat) (lj : Array Slot), res.1 = .inl v → mm_ret (mm_rk k) x st = some v → decode (mm_c k) pc = .ok (x.1, 1) → mm_In D kA A G s c0 s0 σ res.2 H locs cells slots → mm_ag n0 res.2.2.2.2.1.length σ0 σ → W p l e R s m args below meth c H locs cells slots Q (F0 m pc lj (st.map (mm_tr σ))))
    (HT1 : ∀ (E : Nat) (x : mm_I) (st : List Value) (pc : Nat) (σ : Nat → Nat) (μ : mm_M) (H : Heap) (locs : List Loc) (cells slots : Nat) (lj : Array Slot), res = (.inr E, (μ.1, μ.2.1, μ.2.2.1, μ.2.2.2.1, μ.2.2.2.2.1 + 1, μ.2.2.2.2.2 + 6)) → mm_thr x st = some E → mm_ckI k pc x = true → decode (mm_c k) pc = .ok (x.1, 3) → mm_In D kA A G s c0 s0 σ μ H locs cells slots → mm_ag n0 μ.2.2.2.1.length σ0 σ → lj.size = c.maxLocals → W p l e R s m args below meth c H locs cells slots Q (F0 m pc lj (st.map (mm_tr σ))))
    (HT2 : ∀ (E pc : Nat) (σ : Nat → Nat) (H : Heap) (locs : List Loc) (cells slots : Nat) (lj : Array Slot) (rest : List Value) (q : Addr) (ce : Cell), res.1 = .inr E → E < 2 → mm_hs k = [] → H[q]? = some ce → ce.vm = .none → s.vm.findClass (mm_EN E) = some ce.cls → mm_In D kA A G s c0 s0 σ res.2 H locs cells slots → mm_ag n0 res.2.2.2.2.1.length σ0 σ → vx_W p l e R s m args below meth c H locs cells slots Q (F0 m pc lj rest) q) :
    ∀ (n : Nat), n ≤ N → ∀ (is : List mm_I) (ls st : List Value) (μ : mm_M) (pc : Nat) (σ : Nat → Nat) (H : Heap) (locs : List Loc) (cells slots : Nat) (lj : Array Slot), mm_run G n d k is ls st μ = some res → mm_okl k pc is = true → mm_In D kA A G s c0 s0 σ μ H locs cells slots → mm_LV σ ls lj → ls.length = mm_mx k → n0 ≤ μ.2.2.2.1.length → mm_ag n0 μ.2.2.2.1.length σ0 σ →
      W p l e R s m args below meth c H locs cells slots Q (F0 m pc lj (st.map (mm_tr σ))) := by
  have C' := C
  obtain ⟨hx, hb, hml, hown, hnm, hts, hK, hA, hst, hlk, htab, hfr, hlo⟩ := C'
  intro n
  induction n with
  | zero => intro _ is ls st μ pc σ H locs cells slots lj h; simp [mm_run] at h
  | succ n ih =>
    intro hnN is ls st μ pc σ H locs cells slots lj h hok I hl hll hn0 hag
    cases is with
    | nil => simp [mm_run] at h
    | cons x is =>
      obtain ⟨len, hd, hlen, hck, hok2⟩ := mm_okl_cons hok
      have hmj : c.maxLocals = lj.size := by rw [hml, hl.1, hll]
      simp only [mm_run] at h
      cases h1 : mm_one G x ls st μ with
      | some z =>
        rw [h1] at h
        obtain ⟨ls', st', μ'⟩ := z
        simp only at h
        have hle := mm_run_le G _ _ _ _ _ _ _ _ h
        obtain ⟨hle1, hll1⟩ := mm_one_le h1
        have hlen' : len = mm_len x.1 := by
          rcases hlen with q | q
          · exact q
          · rw [mm_sw_one q] at h1; cases h1
        subst hlen'
        exact mm_step C I h1 hck hd hl hll (Nat.le_trans hle.1 hrc) (Nat.le_trans hle.2.1 hrs) (fun σ' H' locs' cells' slots' lj' hag' I' hl' => ih (by omega) is ls' st' μ' _ σ' H' locs' cells' slots' lj' h hok2 I' hl' (hll1.trans hll) (Nat.le_trans hn0 hle1.2.2.1) (hag.tr hag' hn0 hle1.2.2.1))
      | none =>
        rw [h1] at h
        simp only at h
        cases h2 : mm_jmp x st with
        | some z =>
          rw [h2] at h
          obtain ⟨o, st'⟩ := z
          refine mm_sj hx hb (mm_jmp_ck h2 hck) h2 hd (fun ha hb' => ?_) (fun t ht => ?_) (fun ho => ?_)
          · rcases hlen with q | q
            · exact q
            · exfalso
              unfold mm_sw at q
              split at q
              · rename_i h9; exact ha _ _ _ _ h9
              · rename_i h9; exact hb' _ _ h9
              · cases q
          · subst ht
            simp only at h
            exact ih (by omega) _ ls st' μ t σ H locs cells slots lj h (mm_blk_ok hC) I hl hll hn0 hag
          · subst ho
            simp only at h
            exact ih (by omega) _ ls st' μ _ σ H locs cells slots lj h hok2 I hl hll hn0 hag
        | none =>
          rw [h2] at h
          simp only at h
          cases h3 : mm_ret (mm_rk k) x st with
          | some z =>
            rw [h3] at h
            cases h
            obtain ⟨g1, g2⟩ := mm_sw_ret h3
            have hlen' : len = 1 := by
              rcases hlen with q | q
              · rw [q, g2]
              · rw [g1] at q; cases q
            subst hlen'
            exact HR z x st pc σ H locs cells slots lj rfl h3 hd I hag
          | none =>
            rw [h3] at h
            simp only at h
            cases h4 : mm_thr x st with
            | some E =>
              rw [h4] at h
              cases h
              obtain ⟨g1, g2, -⟩ := mm_sw_thr h4
              have hlen' : len = 3 := by
                rcases hlen with q | q
                · rw [q, g2]
                · rw [g1] at q; cases q
              subst hlen'
              exact HT1 E x st pc σ μ H locs cells slots lj rfl h4 hck hd I hag hmj.symm
            | none =>
              rw [h4] at h
              simp only at h
              cases h5 : mm_call x st μ with
              | none => rw [h5] at h; simp at h
              | some z =>
                rw [h5] at h
                obtain ⟨kk, av, rest⟩ := z
                simp only at h
                obtain ⟨g1, g2, g3, g4, g5⟩ := mm_call_ok h5 hck
                have hlen' : len = mm_len x.1 := by
                  rcases hlen with q | q
                  · exact q
                  · rw [g1] at q; cases q
                subst hlen'
                cases d with
                | zero => simp at h
                | succ d =>
                  simp only at h
                  cases h6 : mm_run G n d kk (mm_blk kk 0) (mm_ent (mm_mx kk) av) [] μ with
                  | none => rw [h6] at h; simp at h
                  | some q =>
                    rw [h6] at h
                    have hle := mm_run_le G _ _ _ _ _ _ _ _ h6
                    have hM := IH n (by omega) d kk av μ q g3 g4 h6 l D kA σ H.size hst
                    obtain ⟨hP, hD, hS, hcc, hcs, hE, hSL⟩ := id I
                    have hfree := mm_freeA hD hS hA
                    obtain ⟨o, μ1⟩ := q
                    cases o with
                    | inl v =>
                      simp only at h
                      split at h
                      · rename_i hkeep
                        have hle2 := mm_run_le G _ _ _ _ _ _ _ _ h
                        have hr := mm_callRun (e := e) (below := below) (lj := lj) C I hM hck hd h5 (Or.inl ⟨v, rfl⟩) ⟨by simp only at hle hle2 ⊢; have := hle.1; have := hle2.1; omega, by simp only at hle hle2 ⊢; have := hle.2.1; have := hle2.2.1; omega⟩ hmj
                        intro T hT X
                        rcases hr T hT X with ⟨v9, st₀, t, T', L, e0, X', hL, e1, e2, ⟨v', σ', hv', hag', ho, hP', hD', hF⟩, hgo⟩ | ⟨q9, st₀, t, T', L, E, ce, e0, X', hL, e1, e2, ⟨E0, σ', hq0, -⟩, -⟩
                        · cases hv'
                          have ho' : v9 = v.map (mm_tr σ') := by injection ho
                          subst ho'
                          obtain ⟨k1, k2, k3⟩ := vx_keep e0 e1 hS (fun z _ hz => hfree z hz) hfree hL hF
                          have hSL1 : μ1.2.2.2.1.length ≤ 1000 := hle.2.2.2 hSL
                          have hSC : μ1.2.2.2.1.length ≤ mm_SC := by simp only [mm_SC]; omega
                          have hrest : ls.all (mm_okv μ.2.2.2.1.length) = true ∧ rest.all (mm_okv μ.2.2.2.1.length) = true ∨ σ' = σ := by
                            rcases hkeep with hz | hz
                            · exact Or.inr (mm_ag.eq (n := μ.2.2.2.1.length) (by simp only at hag'; rw [hz] at hag'; exact hag'))
                            · exact Or.inl hz
                          have hl' : mm_LV σ' ls lj := by
                            rcases hrest with hz | hz
                            · exact hl.re hag' hSC hz.1
                            · rw [hz]; exact hl
                          have hrs' : rest.map (mm_tr σ') = rest.map (mm_tr σ) := by
                            rcases hrest with hz | hz
                            · exact mm_trs_ok hag' hSC hz.2
                            · rw [hz]
                          have hcc1 : cells + (μ1.2.2.2.2.1 - μ.2.2.2.2.1) + c0 = μ1.2.2.2.2.1 := by have := hle.1; simp only at this; omega
                          have hcs1 : slots + (μ1.2.2.2.2.2 - μ.2.2.2.2.2) + s0 = μ1.2.2.2.2.2 := by have := hle.2.1; simp only at this; omega
                          have hW := ih (by omega) is ls (v.toList ++ rest) μ1 (pc + mm_len x.1) σ' T'.heap (locs ++ L) _ _ lj h hok2 ⟨by rw [e1]; exact hP', hD'.weaken (fun j z hz hA9 => hfree _ hA9), k3, hcc1, hcs1, hE.re hag' hSC, hSL1⟩ hl' hll (Nat.le_trans hn0 hle.2.2.1) (hag.tr hag' hn0 hle.2.2.1)
                          obtain ⟨t2, a1, b1⟩ := hW T' rfl X'
                          refine ⟨t2, hgo t2 ?_, b1⟩
                          have es : (v.toList ++ rest).map (mm_tr σ') = (v.map (mm_tr σ')).toList ++ rest.map (mm_tr σ) := by
                            rw [List.map_append, hrs']
                            cases v <;> rfl
                          rw [es, g2] at a1
                          exact a1
                        · cases hq0
                      · cases h
                    | inr E =>
                      simp only at h
                      split at h
                      · rename_i idx hxi
                        have hle3 : mm_le μ1 res.2 := by
                          split at h
                          · split at h
                            · cases h; exact mm_le.rf
                            · cases h
                          · split at h
                            · split at h
                              · exact mm_run_le G _ _ _ _ _ _ _ _ h
                              · cases h
                            · cases h
                        have hr := mm_callRun (e := e) (below := below) (lj := lj) C I hM hck hd h5 (Or.inr ⟨idx, hxi⟩) ⟨by simp only at hle hle3 ⊢; have := hle.1; have := hle3.1; omega, by simp only at hle hle3 ⊢; have := hle.2.1; have := hle3.2.1; omega⟩ hmj
                        intro T hT X
                        rcases hr T hT X with ⟨v9, st₀, t, T', L, e0, X', hL, e1, e2, ⟨v', σ', hv', -⟩, -⟩ | ⟨q9, st₀, t, T', L, En, ce, e0, X', hL, e1, e2, ⟨E0, σ', hq0, hE2, rfl, hag', hP', hD', hF⟩, hce, hcv, hcl, hgo⟩
                        · cases hv'
                        · cases hq0
                          obtain ⟨k1, k2, k3⟩ := vx_keep e0 e1 hS (fun z _ hz => hfree z hz) hfree hL hF
                          have hSL1 : μ1.2.2.2.1.length ≤ 1000 := hle.2.2.2 hSL
                          have hSC : μ1.2.2.2.1.length ≤ mm_SC := by simp only [mm_SC]; omega
                          have hcc1 : cells + (μ1.2.2.2.2.1 - μ.2.2.2.2.1) + c0 = μ1.2.2.2.2.1 := by have := hle.1; simp only at this; omega
                          have hcs1 : slots + (μ1.2.2.2.2.2 - μ.2.2.2.2.2) + s0 = μ1.2.2.2.2.2 := by have := hle.2.1; simp only at this; omega
                          have I1 : mm_In D kA A G s c0 s0 σ' μ1 T'.heap (locs ++ L) (cells + (μ1.2.2.2.2.1 - μ.2.2.2.2.1)) (slots + (μ1.2.2.2.2.2 - μ.2.2.2.2.2)) := ⟨by rw [e1]; exact hP', hD'.weaken (fun j z hz hA9 => hfree _ hA9), k3, hcc1, hcs1, hE.re hag' hSC, hSL1⟩
                          have hce1 : T'.heap[q9]? = some ce := by rw [e1]; exact hce
                          split at h
                          · split at h
                            · rename_i hemp
                              cases h
                              obtain ⟨t2, a1, b1⟩ := HT2 E pc σ' T'.heap (locs ++ L) _ _ lj (rest.map (mm_tr σ)) q9 ce rfl hE2 (List.isEmpty_iff.mp hemp) hce1 hcv hcl I1 (hag.tr hag' hn0 hle.2.2.1) T' rfl X'
                              exact ⟨t2, hgo.trans a1, b1⟩
                            · cases h
                          · rename_i hh hhd
                            split at h
                            · rename_i i is2 hast
                              split at h
                              · rename_i hi
                                obtain ⟨hi, hSe⟩ := hi
                                have hσ : σ' = σ := mm_ag.eq (n := μ.2.2.2.1.length) (by simp only at hag'; rw [hSe] at hag'; exact hag')
                                rw [g5] at hhd
                                obtain ⟨pre, a, b, ct, suf, hs1, hs2, hs3, hs4, hs5, hs6⟩ := mm_hd_split _ _ _ _ _ (mm_hsOkA hk) hhd
                                have hoc : mm_oc k = 10 := mm_hhKd hk (by rw [hs1]; simp)
                                have how : s.vm.findClass RL = some m.cls := by rw [mm_ow, hoc] at hown; exact hown
                                obtain ⟨ct0, hlnk⟩ := mm_ctName hs4 hs5
                                have hcov : ∀ z : Nat × Nat × Nat × Nat, covers (⟨z.1, z.2.1, z.2.2.1, z.2.2.2⟩ : ExceptionTableEntry) pc = (decide (z.1 ≤ pc) && decide (pc < z.2.1)) := fun z => rfl
                                have hW : vx_W p l e R s m args below meth c T'.heap (locs ++ L) (cells + (μ1.2.2.2.2.1 - μ.2.2.2.2.1)) (slots + (μ1.2.2.2.2.2 - μ.2.2.2.2.2)) Q (F0 m pc lj (rest.map (mm_tr σ))) q9 := by
                                  refine vx_catch (own := RL) (name := mm_EN E) (E := mm_EN E) how (tableOf pre) ⟨a, b, hh, ct⟩ (tableOf suf) (by rw [htab, hs1]; simp [tableOf]) (fun z hz => ?_) (by rw [hcov (a, b, hh, ct)]; simp [hs2, hs3]) ct0 (hts _ hlnk) (va_Nw.use rfl (hE.2.2.2.2.2.1 _ (mm_csN hs5))) hce1 hcv hcl ?_
                                  · obtain ⟨y, hy, rfl⟩ := List.mem_map.mp hz
                                    rcases hs6 y hy with hn | ⟨hn, hn2⟩
                                    · refine Or.inl ?_
                                      rw [hcov y]
                                      simp only [Bool.and_eq_false_iff, decide_eq_false_iff_not]
                                      by_cases hle9 : y.1 ≤ pc
                                      · exact Or.inr (fun h9 => hn ⟨hle9, h9⟩)
                                      · exact Or.inl hle9
                                    · obtain ⟨y0, hyl⟩ := mm_ctName (ct := y.2.2.2) rfl hn2
                                      refine Or.inr ⟨y0, mm_EN (mm_ctE y.2.2.2), hts _ hyl, ?_⟩
                                      generalize mm_ctE y.2.2.2 = E9 at hn hn2
                                      rcases (show (E = 0 ∧ E9 = 1) ∨ (E = 1 ∧ E9 = 0) by omega) with ⟨rfl, rfl⟩ | ⟨rfl, rfl⟩
                                      · exact hE.2.2.2.2.2.2.2.1
                                      · exact hE.2.2.2.2.2.2.1
                                  · have hbk := mm_blk_ok (k := k) (t := hh) hC
                                    cases hbl : mm_blk k hh with
                                    | nil => rw [hbl] at hast; simp [mm_ast] at hast
                                    | cons y tl =>
                                      rw [hbl] at hast hbk
                                      obtain ⟨len9, hd9, hlen9, -, hok9⟩ := mm_okl_cons hbk
                                      obtain ⟨iy, y1, y2, y3, y4⟩ := y
                                      cases iy <;> simp only [mm_ast] at hast <;> (first | (cases hast; done) | skip)
                                      case astore j =>
                                        cases hast
                                        have hlen9' : len9 = 2 := by
                                          rcases hlen9 with q | q
                                          · exact q
                                          · cases q
                                        subst hlen9'
                                        rw [hσ] at I1
                                        refine lv_astore hx hb hd9 hl.has hi rfl (fun lj' h' => ?_)
                                        exact ih (by omega) is2 (mm_s1 i .null ls) [] μ1 (hh + 2) σ T'.heap (locs ++ L) _ _ lj' h hok9 I1 (mm_LV.st0 h') (by rw [mm_s1_len]; exact hll) (Nat.le_trans hn0 hle.2.2.1) (by rw [← hσ]; exact hag.tr hag' hn0 hle.2.2.1)
                                      case astore_n j =>
                                        cases hast
                                        have hlen9' : len9 = 1 := by
                                          rcases hlen9 with q | q
                                          · exact q
                                          · cases q
                                        subst hlen9'
                                        rw [hσ] at I1
                                        refine lv_astore_n hx hb hd9 rfl hl.has hi rfl (fun lj' h' => ?_)
                                        exact ih (by omega) is2 (mm_s1 j .null ls) [] μ1 (hh + 1) σ T'.heap (locs ++ L) _ _ lj' h hok9 I1 (mm_LV.st0 h') (by rw [mm_s1_len]; exact hll) (Nat.le_trans hn0 hle.2.2.1) (by rw [← hσ]; exact hag.tr hag' hn0 hle.2.2.1)
                                obtain ⟨t2, a1, b1⟩ := hW T' rfl X'
                                exact ⟨t2, hgo.trans a1, b1⟩
                              · cases h
                            · cases h
                      · cases h
end FR
