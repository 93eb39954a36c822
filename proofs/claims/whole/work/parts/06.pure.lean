/-! THE MACHINE FOLLOWS THE SMALL ONE: instructions on locals and stack alone, jumps -/
def mm_len (i : Instr) : Nat := match i with
  | .bipush _ => 2
  | .sipush _ => 3
  | .iload _ => 2
  | .lload _ => 2
  | .aload _ => 2
  | .istore _ => 2
  | .lstore _ => 2
  | .astore _ => 2
  | .iinc _ _ => 3
  | .ldc _ => 2
  | .ldc_w _ => 3
  | .ldc2_w _ => 3
  | .getfield _ => 3
  | .putfield _ => 3
  | .invokevirtual _ => 3
  | .invokespecial _ => 3
  | .invokestatic _ => 3
  | .new _ => 3
  | .newarray _ => 2
  | .goto _ => 3
  | .ifCond _ _ => 3
  | .if_icmp _ _ => 3
  | _ => 1
/-- no memory, no link is needed -/
def mm_isP (i : Instr) : Bool := match i with
  | .iconst _ | .bipush _ | .sipush _ | .lconst _ | .iload _ | .iload_n _ | .lload _ | .lload_n _ | .aload _ | .aload_n _ | .istore _ | .istore_n _ | .astore _ | .astore_n _ | .lstore _ | .lstore_n _ | .iinc _ _
  | .iadd | .isub | .imul | .idiv | .irem | .ineg | .iand | .ior | .ixor | .ishl | .ishr | .iushr | .ladd | .lsub | .lor | .lshl | .lcmp | .i2l | .l2i | .dup | .pop | .dup2 => true
  | _ => false
section PU
variable {p : Program} {l : Launch} {e : Env} {R : Room} {s : State} {m : MethodId} {args : Array Value} {below : List Frame} {meth : Method} {c : Code} {H : Heap} {locs : List Loc} {cells slots : Nat} {Q : State → Prop}
variable {cc : ByteArray} {pc : Nat} {lj : Array Slot} {σ : Nat → Nat}
set_option maxHeartbeats 4000000 in
theorem mm_sp {G : mm_G} {x : mm_I} {ls st ls' st' : List Value} {μ μ' : mm_M} (hx : p.tables.exec = Jvm.exec) (hb : c.code = cc) (hi : mm_isP x.1 = true) (h : mm_one G x ls st μ = some (ls', st', μ')) (hd : decode cc pc = .ok (x.1, mm_len x.1)) (hl : mm_LV σ ls lj)
    (kk : ∀ lj' : Array Slot, mm_LV σ ls' lj' → μ' = μ → W p l e R s m args below meth c H locs cells slots Q (F0 m (pc + mm_len x.1) lj' (st'.map (mm_tr σ)))) : W p l e R s m args below meth c H locs cells slots Q (F0 m pc lj (st.map (mm_tr σ))) := by
  obtain ⟨i, x1, x2, x3, x4⟩ := x
  cases i <;> (first | (exfalso; simp only [mm_isP] at hi; cases hi; done) | skip)
  case iconst n =>
    simp only [mm_one] at h; cases h
    exact lv_iconst hx hb hd rfl (kk lj hl rfl)
  case bipush n =>
    simp only [mm_one] at h; cases h
    exact lv_bipush hx hb hd rfl (kk lj hl rfl)
  case sipush n =>
    simp only [mm_one] at h; cases h
    exact lv_sipush hx hb hd rfl (kk lj hl rfl)
  case lconst n =>
    simp only [mm_one] at h; cases h
    exact lv_lconst hx hb hd rfl (kk lj hl rfl)
  case iload i =>
    simp only [mm_one] at h
    split at h
    · rename_i v hv; cases h
      exact lv_iload hx hb hd (hl.2.2 _ _ hv (by simp)) (kk lj hl rfl)
    · cases h
  case iload_n i =>
    simp only [mm_one] at h
    split at h
    · rename_i v hv; cases h
      exact lv_iload_n hx hb hd rfl (hl.2.2 _ _ hv (by simp)) (kk lj hl rfl)
    · cases h
  case lload i =>
    simp only [mm_one] at h
    split at h
    · rename_i v hv; cases h
      exact lv_lload hx hb hd (hl.2.2 _ _ hv (by simp)) (kk lj hl rfl)
    · cases h
  case lload_n i =>
    simp only [mm_one] at h
    split at h
    · rename_i v hv; cases h
      exact lv_lload_n hx hb hd rfl (hl.2.2 _ _ hv (by simp)) (kk lj hl rfl)
    · cases h
  case aload i =>
    simp only [mm_one] at h
    split at h
    · rename_i v hv; cases h
      exact lv_aload hx hb hd (hl.2.2 _ _ hv (by simp)) (kk lj hl rfl)
    · cases h
  case aload_n i =>
    simp only [mm_one] at h
    split at h
    · rename_i v hv; cases h
      exact lv_aload_n hx hb hd rfl (hl.2.2 _ _ hv (by simp)) (kk lj hl rfl)
    · cases h
  case istore i =>
    simp only [mm_one] at h
    split at h
    · split at h
      · rename_i v st2 hlt; cases h
        exact lv_istore hx hb hd hl.has hlt rfl (fun lj' h' => kk lj' (mm_LV.st1 h') rfl)
      · cases h
    · cases h
  case istore_n i =>
    simp only [mm_one] at h
    split at h
    · split at h
      · rename_i v st2 hlt; cases h
        exact lv_istore_n hx hb hd rfl hl.has hlt rfl (fun lj' h' => kk lj' (mm_LV.st1 h') rfl)
      · cases h
    · cases h
  case astore i =>
    simp only [mm_one] at h
    split at h
    · split at h
      · rename_i v st2 hlt; cases h
        exact lv_astore hx hb hd hl.has hlt rfl (fun lj' h' => kk lj' (mm_LV.st1 h') rfl)
      · cases h
    · cases h
  case astore_n i =>
    simp only [mm_one] at h
    split at h
    · split at h
      · rename_i v st2 hlt; cases h
        exact lv_astore_n hx hb hd rfl hl.has hlt rfl (fun lj' h' => kk lj' (mm_LV.st1 h') rfl)
      · cases h
    · cases h
  case lstore i =>
    simp only [mm_one] at h
    split at h
    · split at h
      · rename_i v st2 hlt; cases h
        exact lv_lstore hx hb hd hl.has hlt rfl (fun lj' h' => kk lj' (mm_LV.st2 h') rfl)
      · cases h
    · cases h
  case lstore_n i =>
    simp only [mm_one] at h
    split at h
    · split at h
      · rename_i v st2 hlt; cases h
        exact lv_lstore_n hx hb hd rfl hl.has hlt rfl (fun lj' h' => kk lj' (mm_LV.st2 h') rfl)
      · cases h
    · cases h
  case iinc i n =>
    simp only [mm_one] at h
    split at h
    · rename_i v hv; cases h
      obtain ⟨k, hk⟩ := List.getElem?_of_mem (mm_as_mem (σ := σ) (q := (i, .int v)) |>.mpr ⟨.int v, hv, by simp, rfl⟩)
      exact lv_iinc hx hb hd hl.has hk rfl (List.getElem?_eq_some_iff.mp hv).1 rfl (fun lj' h' => kk lj' (mm_LV.st1 (v := .int (v + Int32.ofInt n)) h') rfl)
    · cases h
  case iadd =>
    simp only [mm_one] at h; split at h
    · cases h; exact lv_iadd hx hb hd (kk lj hl rfl)
    · cases h
  case isub =>
    simp only [mm_one] at h; split at h
    · cases h; exact lv_isub hx hb hd (kk lj hl rfl)
    · cases h
  case imul =>
    simp only [mm_one] at h; split at h
    · cases h; exact lv_imul hx hb hd (kk lj hl rfl)
    · cases h
  case idiv =>
    simp only [mm_one] at h; split at h
    · split at h
      · cases h
      · rename_i hne; cases h; exact lv_idiv hx hb hd hne (kk lj hl rfl)
    · cases h
  case irem =>
    simp only [mm_one] at h; split at h
    · split at h
      · cases h
      · rename_i hne; cases h; exact lv_irem hx hb hd hne (kk lj hl rfl)
    · cases h
  case ineg =>
    simp only [mm_one] at h; split at h
    · cases h; exact lv_ineg hx hb hd (kk lj hl rfl)
    · cases h
  case iand =>
    simp only [mm_one] at h; split at h
    · cases h; exact lv_iand hx hb hd (kk lj hl rfl)
    · cases h
  case ior =>
    simp only [mm_one] at h; split at h
    · cases h; exact lv_ior hx hb hd (kk lj hl rfl)
    · cases h
  case ixor =>
    simp only [mm_one] at h; split at h
    · cases h; exact lv_ixor hx hb hd (kk lj hl rfl)
    · cases h
  case ishl =>
    simp only [mm_one] at h; split at h
    · cases h; exact lv_ishl hx hb hd (kk lj hl rfl)
    · cases h
  case ishr =>
    simp only [mm_one] at h; split at h
    · cases h; exact lv_ishr hx hb hd (kk lj hl rfl)
    · cases h
  case iushr =>
    simp only [mm_one] at h; split at h
    · cases h; exact lv_iushr hx hb hd rfl (kk lj hl rfl)
    · cases h
  case ladd =>
    simp only [mm_one] at h; split at h
    · cases h; exact lv_ladd hx hb hd (kk lj hl rfl)
    · cases h
  case lsub =>
    simp only [mm_one] at h; split at h
    · cases h; exact lv_lsub hx hb hd (kk lj hl rfl)
    · cases h
  case lor =>
    simp only [mm_one] at h; split at h
    · cases h; exact lv_lor hx hb hd (kk lj hl rfl)
    · cases h
  case lshl =>
    simp only [mm_one] at h; split at h
    · cases h; exact lv_lshl hx hb hd rfl (kk lj hl rfl)
    · cases h
  case lcmp =>
    simp only [mm_one] at h; split at h
    · cases h; exact W.lcmp hx hb hd (kk lj hl rfl)
    · cases h
  case i2l =>
    simp only [mm_one] at h; split at h
    · cases h; exact lv_i2l hx hb hd rfl (kk lj hl rfl)
    · cases h
  case l2i =>
    simp only [mm_one] at h; split at h
    · cases h; exact lv_l2i hx hb hd rfl (kk lj hl rfl)
    · cases h
  case dup =>
    simp only [mm_one] at h; split at h
    · cases h; exact lv_dup hx hb hd rfl (kk lj hl rfl)
    · cases h; exact lv_dup hx hb hd rfl (kk lj hl rfl)
    · cases h
  case pop =>
    simp only [mm_one] at h; split at h
    · cases h; exact lv_pop hx hb hd rfl (kk lj hl rfl)
    · cases h; exact lv_pop hx hb hd rfl (kk lj hl rfl)
    · cases h
  case dup2 =>
    simp only [mm_one] at h; split at h
    · cases h; exact lv_dup2_11 hx hb hd rfl rfl (kk lj hl rfl)
    · cases h; exact lv_dup2_11 hx hb hd rfl rfl (kk lj hl rfl)
    · cases h
/-- what a jump's own numbers must be -/
def mm_okj (pc : Nat) (x : mm_I) : Bool := match x.1 with
  | .goto off => decide ((pc : Int) + off = (x.2.1 : Int))
  | .ifCond _ off => decide ((pc : Int) + off = (x.2.1 : Int))
  | .if_icmp _ off => decide ((pc : Int) + off = (x.2.1 : Int))
  | .tableswitch dflt _ _ offs => decide (x.2.1 = pc) && decide (0 ≤ (pc : Int) + dflt) && offs.toList.all (fun o => decide (0 ≤ (pc : Int) + o))
  | .lookupswitch dflt ps => decide (x.2.1 = pc) && decide (0 ≤ (pc : Int) + dflt) && ps.toList.all (fun o => decide (0 ≤ (pc : Int) + o.2)) && (ps.toList.zip (ps.toList.drop 1)).all (fun (a, next) => a.1 < next.1)
  | _ => true
theorem mm_off_in (dflt v : Int) : ∀ ps : List (Int × Int), Op.lookupswitch.offset ps dflt v = dflt ∨ ∃ q ∈ ps, Op.lookupswitch.offset ps dflt v = q.2 := by
  intro ps
  induction ps with
  | nil => exact Or.inl rfl
  | cons q ps ih =>
    unfold Op.lookupswitch.offset
    split
    · exact Or.inr ⟨q, List.mem_cons_self, rfl⟩
    · rcases ih with h | ⟨z, h1, h2⟩
      · exact Or.inl h
      · exact Or.inr ⟨z, List.mem_cons_of_mem _ h1, h2⟩
set_option maxHeartbeats 4000000 in
theorem mm_sj {x : mm_I} {st st' : List Value} {o : Option Nat} {lenS : Nat} (hx : p.tables.exec = Jvm.exec) (hb : c.code = cc) (hj : mm_okj pc x = true) (h : mm_jmp x st = some (o, st')) (hd : decode cc pc = .ok (x.1, lenS)) (hlg : (∀ a b c d, x.1 ≠ .tableswitch a b c d) → (∀ a b, x.1 ≠ .lookupswitch a b) → lenS = mm_len x.1)
    (kt : ∀ t, o = some t → W p l e R s m args below meth c H locs cells slots Q (F0 m t lj (st'.map (mm_tr σ)))) (kf : o = none → W p l e R s m args below meth c H locs cells slots Q (F0 m (pc + mm_len x.1) lj (st'.map (mm_tr σ)))) : W p l e R s m args below meth c H locs cells slots Q (F0 m pc lj (st.map (mm_tr σ))) := by
  obtain ⟨i, x1, x2, x3, x4⟩ := x
  cases i <;> (first | (exfalso; simp only [mm_jmp] at h; cases h; done) | skip)
  case goto off =>
    have hl : lenS = 3 := hlg (by intros; simp) (by intros; simp)
    subst hl
    simp only [mm_okj, decide_eq_true_eq] at hj
    simp only [mm_jmp] at h; cases h
    exact lv_goto hx hb hd hj (kt _ rfl)
  case ifCond cd off =>
    have hl : lenS = 3 := hlg (by intros; simp) (by intros; simp)
    subst hl
    simp only [mm_okj, decide_eq_true_eq] at hj
    simp only [mm_jmp] at h
    split at h
    · cases cd
      · simp only at h
        exact lv_if_eq hx hb hd hj (fun q => by rw [if_pos q] at h; cases h; exact kt _ rfl) (fun q => by rw [if_neg q] at h; cases h; exact kf rfl)
      · simp only at h
        exact lv_if_ne hx hb hd hj (fun q => by rw [if_pos q] at h; cases h; exact kt _ rfl) (fun q => by rw [if_neg (fun z => z q)] at h; cases h; exact kf rfl)
      · simp only at h
        exact lv_if_lt hx hb hd hj (fun q => by rw [if_pos q] at h; cases h; exact kt _ rfl) (fun q => by rw [if_neg q] at h; cases h; exact kf rfl)
      · simp only at h
        exact lv_if_ge hx hb hd hj (fun q => by rw [if_pos q] at h; cases h; exact kt _ rfl) (fun q => by rw [if_neg q] at h; cases h; exact kf rfl)
      · simp only at h
        exact lv_if_gt hx hb hd hj (fun q => by rw [if_pos q] at h; cases h; exact kt _ rfl) (fun q => by rw [if_neg q] at h; cases h; exact kf rfl)
      · simp only at h
        exact lv_if_le hx hb hd hj (fun q => by rw [if_pos q] at h; cases h; exact kt _ rfl) (fun q => by rw [if_neg q] at h; cases h; exact kf rfl)
    · cases h
  case if_icmp cd off =>
    have hl : lenS = 3 := hlg (by intros; simp) (by intros; simp)
    subst hl
    simp only [mm_okj, decide_eq_true_eq] at hj
    simp only [mm_jmp] at h
    split at h
    · cases cd
      · simp only at h
        exact lv_icmp_eq hx hb hd hj (fun q => by rw [if_pos q] at h; cases h; exact kt _ rfl) (fun q => by rw [if_neg q] at h; cases h; exact kf rfl)
      · simp only at h
        exact lv_icmp_ne hx hb hd hj (fun q => by rw [if_pos q] at h; cases h; exact kt _ rfl) (fun q => by rw [if_neg (fun z => z q)] at h; cases h; exact kf rfl)
      · simp only at h
        exact lv_icmp_lt hx hb hd hj (fun q => by rw [if_pos q] at h; cases h; exact kt _ rfl) (fun q => by rw [if_neg q] at h; cases h; exact kf rfl)
      · simp only at h
        exact lv_icmp_ge hx hb hd hj (fun q => by rw [if_pos q] at h; cases h; exact kt _ rfl) (fun q => by rw [if_neg q] at h; cases h; exact kf rfl)
      · simp only at h
        exact lv_icmp_gt hx hb hd hj (fun q => by rw [if_pos q] at h; cases h; exact kt _ rfl) (fun q => by rw [if_neg q] at h; cases h; exact kf rfl)
      · simp only at h
        exact lv_icmp_le hx hb hd hj (fun q => by rw [if_pos q] at h; cases h; exact kt _ rfl) (fun q => by rw [if_neg q] at h; cases h; exact kf rfl)
    · cases h
  case tableswitch dflt lo hi offs =>
    simp only [mm_okj, Bool.and_eq_true, decide_eq_true_eq] at hj
    obtain ⟨⟨e1, h1⟩, h2⟩ := hj
    subst e1
    simp only [mm_jmp] at h
    split at h
    · rename_i v st2
      split at h
      · rename_i hout
        cases h
        exact lv_tableOut hx hb hd hout (by omega) (kt _ rfl)
      · rename_i hin
        split at h
        · rename_i off ho
          cases h
          have h3 := List.all_eq_true.mp h2 off (by
            rw [Array.mem_toList_iff]; exact Array.mem_of_getElem? ho)
          simp only [decide_eq_true_eq] at h3
          exact lv_tableIn hx hb hd (fun q => hin (Or.inl q)) (fun q => hin (Or.inr q)) ho (by omega) (kt _ rfl)
        · cases h
    · cases h
  case lookupswitch dflt ps =>
    simp only [mm_okj, Bool.and_eq_true, decide_eq_true_eq] at hj
    obtain ⟨⟨⟨e1, h1⟩, h2⟩, h3⟩ := hj
    subst e1
    simp only [mm_jmp] at h
    split at h
    · rename_i v st2
      cases h
      refine lv_lookup hx hb hd h3 rfl ?_ (kt _ rfl)
      rcases mm_off_in dflt v.toInt ps.toList with q | ⟨z, q1, q2⟩
      · rw [q]; omega
      · rw [q2]
        have h4 := List.all_eq_true.mp h2 z q1
        simp only [decide_eq_true_eq] at h4
        omega
    · cases h
end PU
