/-! STRING CONSTANTS: length, charAt, by contract (the JDK's own code) -/
theorem dJ0_length_8abf5_0 : decode cJ0_length_8abf5 0 = .ok (.aload_n 0, 1) := by decide +kernel
theorem dJ0_length_8abf5_1 : decode cJ0_length_8abf5 1 = .ok (.getfield 9, 3) := by decide +kernel
theorem dJ0_length_8abf5_4 : decode cJ0_length_8abf5 4 = .ok (.arraylength, 1) := by decide +kernel
theorem dJ0_length_8abf5_5 : decode cJ0_length_8abf5 5 = .ok (.aload_n 0, 1) := by decide +kernel
theorem dJ0_length_8abf5_6 : decode cJ0_length_8abf5 6 = .ok (.invokevirtual 335, 3) := by decide +kernel
theorem dJ0_length_8abf5_9 : decode cJ0_length_8abf5 9 = .ok (.ishr, 1) := by decide +kernel
theorem dJ0_length_8abf5_10 : decode cJ0_length_8abf5 10 = .ok (.ireturn, 1) := by decide +kernel
theorem dJ0_charAt_5068e_0 : decode cJ0_charAt_5068e 0 = .ok (.aload_n 0, 1) := by decide +kernel
theorem dJ0_charAt_5068e_1 : decode cJ0_charAt_5068e 1 = .ok (.invokevirtual 492, 3) := by decide +kernel
theorem dJ0_charAt_5068e_4 : decode cJ0_charAt_5068e 4 = .ok (.ifCond .eq 12, 3) := by decide +kernel
theorem dJ0_charAt_5068e_7 : decode cJ0_charAt_5068e 7 = .ok (.aload_n 0, 1) := by decide +kernel
theorem dJ0_charAt_5068e_8 : decode cJ0_charAt_5068e 8 = .ok (.getfield 9, 3) := by decide +kernel
theorem dJ0_charAt_5068e_11 : decode cJ0_charAt_5068e 11 = .ok (.iload_n 1, 1) := by decide +kernel
theorem dJ0_charAt_5068e_12 : decode cJ0_charAt_5068e 12 = .ok (.invokestatic 495, 3) := by decide +kernel
theorem dJ0_charAt_5068e_15 : decode cJ0_charAt_5068e 15 = .ok (.ireturn, 1) := by decide +kernel
theorem dJ0_charAt_5068e_16 : decode cJ0_charAt_5068e 16 = .ok (.aload_n 0, 1) := by decide +kernel
theorem dJ0_charAt_5068e_17 : decode cJ0_charAt_5068e 17 = .ok (.getfield 9, 3) := by decide +kernel
theorem dJ0_charAt_5068e_20 : decode cJ0_charAt_5068e 20 = .ok (.iload_n 1, 1) := by decide +kernel
theorem dJ0_charAt_5068e_21 : decode cJ0_charAt_5068e 21 = .ok (.invokestatic 498, 3) := by decide +kernel
theorem dJ0_charAt_5068e_24 : decode cJ0_charAt_5068e 24 = .ok (.ireturn, 1) := by decide +kernel
theorem dJ0_coder_7d493_0 : decode cJ0_coder_7d493 0 = .ok (.getstatic 38, 3) := by decide +kernel
theorem dJ0_coder_7d493_3 : decode cJ0_coder_7d493 3 = .ok (.ifCond .eq 10, 3) := by decide +kernel
theorem dJ0_coder_7d493_6 : decode cJ0_coder_7d493 6 = .ok (.aload_n 0, 1) := by decide +kernel
theorem dJ0_coder_7d493_7 : decode cJ0_coder_7d493 7 = .ok (.getfield 15, 3) := by decide +kernel
theorem dJ0_coder_7d493_10 : decode cJ0_coder_7d493 10 = .ok (.goto 4, 3) := by decide +kernel
theorem dJ0_coder_7d493_13 : decode cJ0_coder_7d493 13 = .ok (.iconst 1, 1) := by decide +kernel
theorem dJ0_coder_7d493_14 : decode cJ0_coder_7d493 14 = .ok (.ireturn, 1) := by decide +kernel
theorem dJ0_isLatin1_aae02_0 : decode cJ0_isLatin1_aae02 0 = .ok (.getstatic 38, 3) := by decide +kernel
theorem dJ0_isLatin1_aae02_3 : decode cJ0_isLatin1_aae02 3 = .ok (.ifCond .eq 14, 3) := by decide +kernel
theorem dJ0_isLatin1_aae02_6 : decode cJ0_isLatin1_aae02 6 = .ok (.aload_n 0, 1) := by decide +kernel
theorem dJ0_isLatin1_aae02_7 : decode cJ0_isLatin1_aae02 7 = .ok (.getfield 15, 3) := by decide +kernel
theorem dJ0_isLatin1_aae02_10 : decode cJ0_isLatin1_aae02 10 = .ok (.ifCond .ne 7, 3) := by decide +kernel
theorem dJ0_isLatin1_aae02_13 : decode cJ0_isLatin1_aae02 13 = .ok (.iconst 1, 1) := by decide +kernel
theorem dJ0_isLatin1_aae02_14 : decode cJ0_isLatin1_aae02 14 = .ok (.goto 4, 3) := by decide +kernel
theorem dJ0_isLatin1_aae02_17 : decode cJ0_isLatin1_aae02 17 = .ok (.iconst 0, 1) := by decide +kernel
theorem dJ0_isLatin1_aae02_18 : decode cJ0_isLatin1_aae02 18 = .ok (.ireturn, 1) := by decide +kernel
theorem dJ0_checkIndex_df160_0 : decode cJ0_checkIndex_df160 0 = .ok (.iload_n 0, 1) := by decide +kernel
theorem dJ0_checkIndex_df160_1 : decode cJ0_checkIndex_df160 1 = .ok (.iload_n 1, 1) := by decide +kernel
theorem dJ0_checkIndex_df160_2 : decode cJ0_checkIndex_df160 2 = .ok (.getstatic 1053, 3) := by decide +kernel
theorem dJ0_checkIndex_df160_5 : decode cJ0_checkIndex_df160 5 = .ok (.invokestatic 1059, 3) := by decide +kernel
theorem dJ0_checkIndex_df160_8 : decode cJ0_checkIndex_df160 8 = .ok (.pop, 1) := by decide +kernel
theorem dJ0_checkIndex_df160_9 : decode cJ0_checkIndex_df160 9 = .ok (.return_, 1) := by decide +kernel
theorem dJ1_charAt_3b067_0 : decode cJ1_charAt_3b067 0 = .ok (.iload_n 1, 1) := by decide +kernel
theorem dJ1_charAt_3b067_1 : decode cJ1_charAt_3b067 1 = .ok (.aload_n 0, 1) := by decide +kernel
theorem dJ1_charAt_3b067_2 : decode cJ1_charAt_3b067 2 = .ok (.arraylength, 1) := by decide +kernel
theorem dJ1_charAt_3b067_3 : decode cJ1_charAt_3b067 3 = .ok (.invokestatic 9, 3) := by decide +kernel
theorem dJ1_charAt_3b067_6 : decode cJ1_charAt_3b067 6 = .ok (.aload_n 0, 1) := by decide +kernel
theorem dJ1_charAt_3b067_7 : decode cJ1_charAt_3b067 7 = .ok (.iload_n 1, 1) := by decide +kernel
theorem dJ1_charAt_3b067_8 : decode cJ1_charAt_3b067 8 = .ok (.baload, 1) := by decide +kernel
theorem dJ1_charAt_3b067_9 : decode cJ1_charAt_3b067 9 = .ok (.sipush 255, 3) := by decide +kernel
theorem dJ1_charAt_3b067_12 : decode cJ1_charAt_3b067 12 = .ok (.iand, 1) := by decide +kernel
theorem dJ1_charAt_3b067_13 : decode cJ1_charAt_3b067 13 = .ok (.i2c, 1) := by decide +kernel
theorem dJ1_charAt_3b067_14 : decode cJ1_charAt_3b067 14 = .ok (.ireturn, 1) := by decide +kernel
theorem dJ3_checkIndex_8e157_0 : decode cJ3_checkIndex_8e157 0 = .ok (.iload_n 0, 1) := by decide +kernel
theorem dJ3_checkIndex_8e157_1 : decode cJ3_checkIndex_8e157 1 = .ok (.ifCond .lt 8, 3) := by decide +kernel
theorem dJ3_checkIndex_8e157_4 : decode cJ3_checkIndex_8e157 4 = .ok (.iload_n 0, 1) := by decide +kernel
theorem dJ3_checkIndex_8e157_5 : decode cJ3_checkIndex_8e157 5 = .ok (.iload_n 1, 1) := by decide +kernel
theorem dJ3_checkIndex_8e157_6 : decode cJ3_checkIndex_8e157 6 = .ok (.if_icmp .lt 10, 3) := by decide +kernel
theorem dJ3_checkIndex_8e157_9 : decode cJ3_checkIndex_8e157 9 = .ok (.aload_n 2, 1) := by decide +kernel
theorem dJ3_checkIndex_8e157_10 : decode cJ3_checkIndex_8e157 10 = .ok (.iload_n 0, 1) := by decide +kernel
theorem dJ3_checkIndex_8e157_11 : decode cJ3_checkIndex_8e157 11 = .ok (.iload_n 1, 1) := by decide +kernel
theorem dJ3_checkIndex_8e157_12 : decode cJ3_checkIndex_8e157 12 = .ok (.invokestatic 95, 3) := by decide +kernel
theorem dJ3_checkIndex_8e157_15 : decode cJ3_checkIndex_8e157 15 = .ok (.athrow, 1) := by decide +kernel
theorem dJ3_checkIndex_8e157_16 : decode cJ3_checkIndex_8e157 16 = .ok (.iload_n 0, 1) := by decide +kernel
theorem dJ3_checkIndex_8e157_17 : decode cJ3_checkIndex_8e157 17 = .ok (.ireturn, 1) := by decide +kernel
theorem mm_goodTB : GoodIn mm_TB mm_TB := fun w h => ⟨h, good_of_word (List.mem_filter.mp h).2⟩
theorem mm_goodC {w0 : Cond} (h0 : w0 ∈ mm_TB) : GoodIn mm_TB (w0 :: mm_TB) := fun w h => (List.mem_cons.mp h).elim (fun e => by rw [e]; exact mm_goodTB _ h0) (mm_goodTB w)
theorem mm_cb {R : Room} {s : State} {args : Array Value} {own : String} {idx maxL n : Nat} {y : MethodName} {bytes : ByteArray} {ret : Option FieldType} {rm : Room} (hts : ∀ w ∈ mm_TB, w.before args s = true) (hc : Cond.code y bytes maxL ret ∈ mm_TB) (hi : Cond.initialized y.cls ∈ mm_TB) (hl : Cond.methodLink own idx y ∈ mm_TB)
    (hd : y.cls ≠ "java/lang/invoke/MethodHandle" ∧ y.cls ≠ "java/lang/invoke/VarHandle" ∧ (parseMethodDescriptor y.desc).map (fun d => d.parameters.length) = some n) (hR : rm.frames + 1 ≤ R.frames ∧ 8 + (maxL + 11) + rm.locals ≤ R.locals) : CallB R s args own idx y bytes maxL ret (Cond.code y bytes maxL ret :: mm_TB) rm rm.cells rm.slots n :=
  ⟨rfl, rfl, hR.1, hR.2, pay_in hts (mm_goodC hc), List.mem_cons_self, hts _ hc, hts _ hi, ⟨hd.1, hd.2.1⟩, fun sig h => by have h2 := hd.2.2; rw [h] at h2; exact (Option.some.inj h2).symm, hts _ hl⟩
/-- what stands of the String constants, and the two statics that String reads -/
def mm_Ss (adK adV : Nat → Nat) (A : Nat → Prop) (U : State) (H : Heap) : Prop := (∀ j : Nat, j < mm_str.length → vk_S 1 [(mm_str.getD j []).length] [mm_str.getD j []] (fun _ => adK j) (fun _ => adV j) A U H) ∧ va_Z "java/lang/String" "COMPACT_STRINGS" "Z" (.int 1) A U H ∧ va_Zq "jdk/internal/util/Preconditions" "SIOOBE_FORMATTER" "Ljava/util/function/BiFunction;" A U H
theorem mm_Ss.moved {adK adV : Nat → Nat} {A : Nat → Prop} {u U : State} {H : Heap} (hvm : u.vm.Alike U.vm) (h : mm_Ss adK adV A u H) : mm_Ss adK adV A U H := ⟨fun j hj => (h.1 j hj).moved hvm, h.2.1.moved hvm, h.2.2.moved hvm⟩
theorem mm_Ss.kept {adK adV : Nat → Nat} {A : Nat → Prop} {U : State} {H H1 : Heap} (h : mm_Ss adK adV A U H) (hq : ∀ a : Nat, a < H.size → ¬ A a → H1[a]? = H[a]?) : mm_Ss adK adV A U H1 := ⟨fun j hj => (h.1 j hj).kept hq, h.2.1.kept hq, h.2.2.kept hq⟩
theorem mm_Ss.narrow {adK adV : Nat → Nat} {A B : Nat → Prop} {U : State} {H : Heap} (h : mm_Ss adK adV A U H) (hAB : ∀ q, B q → A q) : mm_Ss adK adV B U H := ⟨fun j hj => (h.1 j hj).narrow hAB, h.2.1.narrow hAB, h.2.2.narrow hAB⟩
theorem mm_Ss.of {adK adV : Nat → Nat} {A : Nat → Prop} {U : State} {H : Heap} {j : Nat} (h : mm_Ss adK adV A U H) (hj : j < mm_str.length) : va_O "java/lang/String" (adK j) A U H ∧ va_OF "java/lang/String" "coder" "B" (.int 0) (adK j) A U H ∧ va_OF "java/lang/String" "value" "[B" (.ref (adV j)) (adK j) A U H ∧ va_T .byte (adV j) (mm_str.getD j []).length (fun i => .int ((mm_str.getD j []).getD i 0)) A U H := (h.1 j hj).1 0 Nat.one_pos
abbrev sc_A (U : State) : Nat → Prop := fun q => U.heap.size ≤ q
abbrev sc_P (adK adV : Nat → Nat) (av : List Value) : Array Value → State → Prop := fun v U => v = av.toArray ∧ mm_Ss adK adV (sc_A U) U U.heap
theorem sc_blind {adK adV : Nat → Nat} {av : List Value} : FrameBlind (sc_P adK adV av) := fun a U g mk h => ⟨h.1, mm_Ss.moved (u := U) (U := U.calling g mk a) (Vm.Alike.refl U.vm) h.2⟩
theorem sc_pre {adK adV : Nat → Nat} {av : List Value} {s : State} {H : Heap} {locs : List Loc} {A : Nat → Prop} (hE : mm_Ss adK adV A s s.heap) (hS : va_S A s.heap H locs) (hA : ∀ q, s.heap.size ≤ q → A q) : ∀ U : State, U.heap = H → s.WarmedH U.vm → sc_P adK adV av av.toArray U := fun U hU hW => ⟨rfl, by
  rw [hU]
  exact ((hE.kept hS.2.1).moved hW.alike).narrow (fun q (h : U.heap.size ≤ q) => hA q (by rw [hU] at h; exact Nat.le_trans hS.1 h))⟩
def sc_rm (d : Nat) : Room := { frames := d, cells := 0, slots := 0, locals := 40 * d }
theorem mm_W1 : mm_contains (.fieldLink RJ0 38 "java/lang/String" "COMPACT_STRINGS" "Z") = true := by decide +kernel
theorem mm_W2 : mm_contains (.fieldLink RJ0 15 "java/lang/String" "coder" "B") = true := by decide +kernel
theorem mm_W3 : mm_contains (.fieldLink RJ0 9 "java/lang/String" "value" "[B") = true := by decide +kernel
theorem mm_W4 : mm_contains (.fieldLink RJ0 1053 "jdk/internal/util/Preconditions" "SIOOBE_FORMATTER" "Ljava/util/function/BiFunction;") = true := by decide +kernel
theorem mm_W5 : mm_contains (.code yJ0_coder_7d493 cJ0_coder_7d493 1 (some .byte)) = true := by decide +kernel
theorem mm_W6 : mm_contains (.initialized RJ0) = true := by decide +kernel
theorem mm_W7 : mm_contains (.methodLink RJ0 335 yJ0_coder_7d493) = true := by decide +kernel
theorem mm_W8 : mm_contains (.instanceMethod yJ0_coder_7d493) = true := by decide +kernel
theorem mm_W9 : mm_contains (.selects RJ0 yJ0_coder_7d493 yJ0_coder_7d493) = true := by decide +kernel
theorem mm_W10 : mm_contains (.code yJ0_isLatin1_aae02 cJ0_isLatin1_aae02 1 (some .boolean)) = true := by decide +kernel
theorem mm_W11 : mm_contains (.methodLink RJ0 492 yJ0_isLatin1_aae02) = true := by decide +kernel
theorem mm_W12 : mm_contains (.instanceMethod yJ0_isLatin1_aae02) = true := by decide +kernel
theorem mm_W13 : mm_contains (.selects RJ0 yJ0_isLatin1_aae02 yJ0_isLatin1_aae02) = true := by decide +kernel
theorem mm_W14 : mm_contains (.code yJ1_charAt_3b067 cJ1_charAt_3b067 2 (some .char)) = true := by decide +kernel
theorem mm_W15 : mm_contains (.methodLink RJ0 495 yJ1_charAt_3b067) = true := by decide +kernel
theorem mm_W16 : mm_contains (.static yJ1_charAt_3b067) = true := by decide +kernel
theorem mm_W17 : mm_contains (.initialized RJ1) = true := by decide +kernel
theorem mm_W18 : mm_contains (.code yJ0_checkIndex_df160 cJ0_checkIndex_df160 2 none) = true := by decide +kernel
theorem mm_W19 : mm_contains (.methodLink RJ1 9 yJ0_checkIndex_df160) = true := by decide +kernel
theorem mm_W20 : mm_contains (.static yJ0_checkIndex_df160) = true := by decide +kernel
theorem mm_W21 : mm_contains (.code yJ3_checkIndex_8e157 cJ3_checkIndex_8e157 3 (some .int)) = true := by decide +kernel
theorem mm_W22 : mm_contains (.methodLink RJ0 1059 yJ3_checkIndex_8e157) = true := by decide +kernel
theorem mm_W23 : mm_contains (.static yJ3_checkIndex_8e157) = true := by decide +kernel
theorem mm_W24 : mm_contains (.initialized RJ3) = true := by decide +kernel
theorem mm_W25 : mm_contains (.code yJ0_length_8abf5 cJ0_length_8abf5 1 (some .int)) = true := by decide +kernel
theorem mm_W26 : mm_contains (.code yJ0_charAt_5068e cJ0_charAt_5068e 2 (some .char)) = true := by decide +kernel
theorem mm_W27 : mm_contains (.instanceMethod yJ0_length_8abf5) = true := by decide +kernel
theorem mm_W28 : mm_contains (.selects RJ0 yJ0_length_8abf5 yJ0_length_8abf5) = true := by decide +kernel
theorem mm_W29 : mm_contains (.instanceMethod yJ0_charAt_5068e) = true := by decide +kernel
theorem mm_W30 : mm_contains (.selects RJ0 yJ0_charAt_5068e yJ0_charAt_5068e) = true := by decide +kernel
section SC
variable {l : Launch} {adK adV : Nat → Nat} {j : Nat}
set_option maxHeartbeats 4000000 in
theorem sc_coder (d : Nat) (hj : j < mm_str.length) : Met l yJ0_coder_7d493 (.code yJ0_coder_7d493 cJ0_coder_7d493 1 (some .byte) :: mm_TB) (sc_rm d) (sc_P adK adV [.ref (adK j)]) (vp_Si (fun r => r = 0)) 0 0 (fun _ => False) := by
  refine Met.ofW (cc := cJ0_coder_7d493) (maxL := 1) (ret := some .byte) (by decide) rfl ?_
  intro p e s m args below meth c s₁ B hml hv
  obtain ⟨rfl, hE⟩ := hv
  have hx := B.exec
  have hb := B.bytes
  have hr := B.returns
  have hts : ∀ w ∈ mm_TB, w.before _ s = true := fun w h => atoms_spec (ws := .code yJ0_coder_7d493 cJ0_coder_7d493 1 (some .byte) :: mm_TB) B.pre w (List.mem_cons_of_mem _ h)
  have hown : s.vm.findClass RJ0 = some m.cls := findClass_of_methodNamed B.named
  have hlocks := B.notSynchronized
  have hS : va_S (sc_A s) s.heap s.heap [] := va_S.rf
  have hl := lv_entry ([.ref (adK j)]) (n := 1) (Nat.le_of_ble_eq_true rfl)
  rw [lg_entry_eq]
  generalize (lg_sl ([.ref (adK j)]) ++ List.replicate (1 - (lg_sl ([.ref (adK j)])).length) Slot.unset).toArray = ls at hl ⊢
  have hl : lv_has ls 1 [(0, .ref (adK j))] := hl
  refine va_gets (v := .int 1) hx hb hE.2.1 hS hown (hts _ (mm_TBc mm_W1)) (fun _ h => h) dJ0_coder_7d493_0 ?_
  refine lv_if_eq (tgt := 13) hx hb dJ0_coder_7d493_3 (by decide) (fun h => absurd h (by decide)) (fun _ => ?_)
  refine lv_aload_n hx hb dJ0_coder_7d493_6 rfl (lv_at hl 0 rfl) ?_
  refine vk_getf (v := .int 0) hx hb (hE.of hj).2.1 hS hown (hts _ (mm_TBc mm_W2)) (fun _ h => h) dJ0_coder_7d493_7 ?_
  refine lv_goto (tgt := 14) hx hb dJ0_coder_7d493_10 (by decide) ?_
  exact W.zret (v := 0) hx hb hr rfl (fun t ht hW => ⟨0, rfl, rfl, ht⟩) (fun q hq => nomatch hq) dJ0_coder_7d493_14
set_option maxHeartbeats 4000000 in
theorem sc_latin (d : Nat) (hj : j < mm_str.length) : Met l yJ0_isLatin1_aae02 (.code yJ0_isLatin1_aae02 cJ0_isLatin1_aae02 1 (some .boolean) :: mm_TB) (sc_rm d) (sc_P adK adV [.ref (adK j)]) (vp_Si (fun r => r = 1)) 0 0 (fun _ => False) := by
  refine Met.ofW (cc := cJ0_isLatin1_aae02) (maxL := 1) (ret := some .boolean) (by decide) rfl ?_
  intro p e s m args below meth c s₁ B hml hv
  obtain ⟨rfl, hE⟩ := hv
  have hx := B.exec
  have hb := B.bytes
  have hr := B.returns
  have hts : ∀ w ∈ mm_TB, w.before _ s = true := fun w h => atoms_spec (ws := .code yJ0_isLatin1_aae02 cJ0_isLatin1_aae02 1 (some .boolean) :: mm_TB) B.pre w (List.mem_cons_of_mem _ h)
  have hown : s.vm.findClass RJ0 = some m.cls := findClass_of_methodNamed B.named
  have hlocks := B.notSynchronized
  have hS : va_S (sc_A s) s.heap s.heap [] := va_S.rf
  have hl := lv_entry ([.ref (adK j)]) (n := 1) (Nat.le_of_ble_eq_true rfl)
  rw [lg_entry_eq]
  generalize (lg_sl ([.ref (adK j)]) ++ List.replicate (1 - (lg_sl ([.ref (adK j)])).length) Slot.unset).toArray = ls at hl ⊢
  have hl : lv_has ls 1 [(0, .ref (adK j))] := hl
  refine va_gets (v := .int 1) hx hb hE.2.1 hS hown (hts _ (mm_TBc mm_W1)) (fun _ h => h) dJ0_isLatin1_aae02_0 ?_
  refine lv_if_eq (tgt := 17) hx hb dJ0_isLatin1_aae02_3 (by decide) (fun h => absurd h (by decide)) (fun _ => ?_)
  refine lv_aload_n hx hb dJ0_isLatin1_aae02_6 rfl (lv_at hl 0 rfl) ?_
  refine vk_getf (v := .int 0) hx hb (hE.of hj).2.1 hS hown (hts _ (mm_TBc mm_W2)) (fun _ h => h) dJ0_isLatin1_aae02_7 ?_
  refine lv_if_ne (tgt := 17) hx hb dJ0_isLatin1_aae02_10 (by decide) (fun h => absurd rfl h) (fun _ => ?_)
  refine lv_iconst (v := 1) hx hb dJ0_isLatin1_aae02_13 (by decide) ?_
  refine lv_goto (tgt := 18) hx hb dJ0_isLatin1_aae02_14 (by decide) ?_
  exact W.zret (v := 1) hx hb hr rfl (fun t ht hW => ⟨1, rfl, rfl, ht⟩) (fun q hq => nomatch hq) dJ0_isLatin1_aae02_18
set_option maxHeartbeats 4000000 in
theorem sc_chk3 (d : Nat) {i n : Int32} {v : Value} (hv1 : v.category = 1) (hi : ¬ i < 0) (hn : i < n) : Met l yJ3_checkIndex_8e157 (.code yJ3_checkIndex_8e157 cJ3_checkIndex_8e157 3 (some .int) :: mm_TB) (sc_rm d) (sc_P adK adV [.int i, .int n, v]) (vp_Si (fun r => r = i)) 0 0 (fun _ => False) := by
  refine Met.ofW (cc := cJ3_checkIndex_8e157) (maxL := 3) (ret := some .int) (by decide) rfl ?_
  intro p e s m args below meth c s₁ B hml hv
  obtain ⟨rfl, hE⟩ := hv
  have hx := B.exec
  have hb := B.bytes
  have hr := B.returns
  have hlocks := B.notSynchronized
  have hl := lv_entry ([.int i, .int n, v]) (n := 3) (by simp only [lg_sl, List.flatMap_cons, List.flatMap_nil, hv1]; exact Nat.le_refl 3)
  rw [lg_entry_eq]
  generalize (lg_sl ([.int i, .int n, v]) ++ List.replicate (3 - (lg_sl ([.int i, .int n, v])).length) Slot.unset).toArray = ls at hl ⊢
  have hl : lv_has ls 3 [(0, .int i), (1, .int n), (2, v)] := hl
  refine lv_iload_n hx hb dJ3_checkIndex_8e157_0 rfl (lv_at hl 0 rfl) ?_
  refine lv_if_lt (tgt := 9) hx hb dJ3_checkIndex_8e157_1 (by decide) (fun h => absurd h hi) (fun _ => ?_)
  refine lv_iload_n hx hb dJ3_checkIndex_8e157_4 rfl (lv_at hl 0 rfl) ?_
  refine lv_iload_n hx hb dJ3_checkIndex_8e157_5 rfl (lv_at hl 1 rfl) ?_
  refine lv_icmp_lt (tgt := 16) hx hb dJ3_checkIndex_8e157_6 (by decide) (fun _ => ?_) (fun h => absurd hn h)
  refine lv_iload_n hx hb dJ3_checkIndex_8e157_16 rfl (lv_at hl 0 rfl) ?_
  exact W.iret (v := i) hx hb hr (fun t ht hW => ⟨i, rfl, rfl, ht⟩) (fun q hq => nomatch hq) dJ3_checkIndex_8e157_17
set_option maxHeartbeats 4000000 in
theorem sc_chk2 {i n : Int32} (hi : ¬ i < 0) (hn : i < n) : Met l yJ0_checkIndex_df160 (.code yJ0_checkIndex_df160 cJ0_checkIndex_df160 2 none :: mm_TB) (sc_rm 2) (sc_P adK adV [.int i, .int n]) (va_Sv (fun _ => True)) 0 0 (fun _ => False) := by
  refine Met.ofW (cc := cJ0_checkIndex_df160) (maxL := 2) (ret := none) (by decide) rfl ?_
  intro p e s m args below meth c s₁ B hml hv
  obtain ⟨rfl, hE⟩ := hv
  have hx := B.exec
  have hb := B.bytes
  have hr := B.returns
  have hts : ∀ w ∈ mm_TB, w.before _ s = true := fun w h => atoms_spec (ws := .code yJ0_checkIndex_df160 cJ0_checkIndex_df160 2 none :: mm_TB) B.pre w (List.mem_cons_of_mem _ h)
  have hown : s.vm.findClass RJ0 = some m.cls := findClass_of_methodNamed B.named
  have hlocks := B.notSynchronized
  have hS : va_S (sc_A s) s.heap s.heap [] := va_S.rf
  have hl := lv_entry ([.int i, .int n]) (n := 2) (Nat.le_of_ble_eq_true rfl)
  rw [lg_entry_eq]
  generalize (lg_sl ([.int i, .int n]) ++ List.replicate (2 - (lg_sl ([.int i, .int n])).length) Slot.unset).toArray = ls at hl ⊢
  have hl : lv_has ls 2 [(0, .int i), (1, .int n)] := hl
  refine lv_iload_n hx hb dJ0_checkIndex_df160_0 rfl (lv_at hl 0 rfl) ?_
  refine lv_iload_n hx hb dJ0_checkIndex_df160_1 rfl (lv_at hl 1 rfl) ?_
  have key : ∀ v : Value, v.category = 1 → W p l e (headSpec (.code yJ0_checkIndex_df160 cJ0_checkIndex_df160 2 none :: mm_TB) (sc_rm 2)).room s m ([.int i, .int n] : List Value).toArray below meth c s.heap [] 0 0 (MQ below (va_Sv (fun _ => True)) ([.int i, .int n] : List Value).toArray s 0 0 (fun _ => False)) (F0 m 5 ls [v, .int n, .int i]) := by
    intro v hv1
    refine vp_callSi (W.runS (As := [.int i, .int n, v]) (rest := []) ⟨hx, hb, hml, hown, hts⟩ (sc_chk3 (adK := adK) (adV := adV) 1 hv1 hi hn) ⟨mm_cb (n := 3) hts (mm_TBc mm_W21) (mm_TBc mm_W24) (mm_TBc mm_W22) ⟨by decide, by decide, by decide +kernel⟩ ⟨by decide, by decide⟩, hts _ (mm_TBc mm_W23)⟩ ⟨sc_blind, sc_pre hE hS (fun _ h => h)⟩ rfl rfl hl.1 rfl (lv_room (Nat.le_of_ble_eq_true rfl)) dJ0_checkIndex_df160_5 ⟨Nat.le_refl _, Nat.le_refl _⟩) (fun r hr9 => ?_)
    refine lv_pop hx hb dJ0_checkIndex_df160_8 rfl ?_
    exact W.vret hx hb hr (fun t ht hW => ⟨rfl, trivial, ht⟩) (fun q hq => nomatch hq) dJ0_checkIndex_df160_9
  rcases hE.2.2 with hz | ⟨t, hz⟩
  · exact va_gets (v := .null) hx hb hz hS hown (hts _ (mm_TBc mm_W4)) (fun _ h => h) dJ0_checkIndex_df160_2 (key _ rfl)
  · exact va_gets (v := .ref t) hx hb hz hS hown (hts _ (mm_TBc mm_W4)) (fun _ h => h) dJ0_checkIndex_df160_2 (key _ rfl)
theorem sc_byte {j : Nat} (hj : j < mm_str.length) (i : Nat) : ((mm_str.getD j []).getD i 0 &&& 255) = (mm_str.getD j []).getD i 0 ∧ (((mm_str.getD j []).getD i 0).toUInt32 % 65536).toInt32 = (mm_str.getD j []).getD i 0 ∧ narrow .char (.int ((mm_str.getD j []).getD i 0)) = .int ((mm_str.getD j []).getD i 0) := by
  have all : mm_str.all (fun b => b.all (fun x => decide (x &&& 255 = x) && decide ((x.toUInt32 % 65536).toInt32 = x) && decide (narrow .char (.int x) = .int x))) = true := by decide +kernel
  have e0 : mm_str.getD j [] = mm_str[j] := by rw [List.getD_eq_getElem?_getD, List.getElem?_eq_getElem hj, Option.getD_some]
  rw [e0]
  have h1 := List.all_eq_true.mp all _ (List.getElem_mem hj)
  rw [List.getD_eq_getElem?_getD]
  cases h2 : (mm_str[j])[i]? with
  | none => exact ⟨by decide, by decide, rfl⟩
  | some x =>
    have h3 := List.all_eq_true.mp h1 x (List.mem_of_getElem? h2)
    simp only [Bool.and_eq_true, decide_eq_true_eq] at h3
    exact ⟨h3.1.1, h3.1.2, h3.2⟩
theorem sc_len9 {j : Nat} (hj : j < mm_str.length) : (mm_str.getD j []).length < 10 := by
  have all : mm_str.all (fun b => decide (b.length < 10)) = true := by decide +kernel
  rw [List.getD_eq_getElem?_getD, List.getElem?_eq_getElem hj, Option.getD_some]
  exact of_decide_eq_true (List.all_eq_true.mp all _ (List.getElem_mem hj))
set_option maxHeartbeats 4000000 in
theorem sc_char1 {i : Int32} (hj : j < mm_str.length) (hi : mm_ix i (mm_str.getD j []).length) : Met l yJ1_charAt_3b067 (.code yJ1_charAt_3b067 cJ1_charAt_3b067 2 (some .char) :: mm_TB) (sc_rm 3) (sc_P adK adV [.ref (adV j), .int i]) (vp_Si (fun r => r = (mm_str.getD j []).getD i.toNatClampNeg 0)) 0 0 (fun _ => False) := by
  refine Met.ofW (cc := cJ1_charAt_3b067) (maxL := 2) (ret := some .char) (by decide) rfl ?_
  intro p e s m args below meth c s₁ B hml hv
  obtain ⟨rfl, hE⟩ := hv
  have hx := B.exec
  have hb := B.bytes
  have hr := B.returns
  have hts : ∀ w ∈ mm_TB, w.before _ s = true := fun w h => atoms_spec (ws := .code yJ1_charAt_3b067 cJ1_charAt_3b067 2 (some .char) :: mm_TB) B.pre w (List.mem_cons_of_mem _ h)
  have hown : s.vm.findClass RJ1 = some m.cls := findClass_of_methodNamed B.named
  have hlocks := B.notSynchronized
  have hS : va_S (sc_A s) s.heap s.heap [] := va_S.rf
  have hl := lv_entry ([.ref (adV j), .int i]) (n := 2) (Nat.le_of_ble_eq_true rfl)
  rw [lg_entry_eq]
  generalize (lg_sl ([.ref (adV j), .int i]) ++ List.replicate (2 - (lg_sl ([.ref (adV j), .int i])).length) Slot.unset).toArray = ls at hl ⊢
  have hl : lv_has ls 2 [(0, .ref (adV j)), (1, .int i)] := hl
  have hT := (hE.of hj).2.2.2
  have h9 := sc_len9 hj
  obtain ⟨z, hz, rfl⟩ := vp_in_of hi (by omega)
  have hlt : nI z < nI (mm_str.getD j []).length := nI_lt hz (by omega)
  have hge : ¬ nI z < 0 := nI_pos (by omega)
  obtain ⟨b1, b2, b3⟩ := sc_byte hj (nI z).toNatClampNeg
  refine lv_iload_n hx hb dJ1_charAt_3b067_0 rfl (lv_at hl 1 rfl) ?_
  refine lv_aload_n hx hb dJ1_charAt_3b067_1 rfl (lv_at hl 0 rfl) ?_
  refine va_tlen (v := nI (mm_str.getD j []).length) hx hb hT hS rfl dJ1_charAt_3b067_2 ?_
  refine va_csv (W.runS (As := [.int (nI z), .int (nI (mm_str.getD j []).length)]) (rest := []) ⟨hx, hb, hml, hown, hts⟩ (sc_chk2 (adK := adK) (adV := adV) hge hlt) ⟨mm_cb (n := 2) hts (mm_TBc mm_W18) (mm_TBc mm_W6) (mm_TBc mm_W19) ⟨by decide, by decide, by decide +kernel⟩ ⟨by decide, by decide⟩, hts _ (mm_TBc mm_W20)⟩ ⟨sc_blind, sc_pre hE hS (fun _ h => h)⟩ rfl rfl hl.1 rfl (lv_room (Nat.le_of_ble_eq_true rfl)) dJ1_charAt_3b067_3 ⟨Nat.le_refl _, Nat.le_refl _⟩) (fun _ => ?_)
  refine lv_aload_n hx hb dJ1_charAt_3b067_6 rfl (lv_at hl 0 rfl) ?_
  refine lv_iload_n hx hb dJ1_charAt_3b067_7 rfl (lv_at hl 1 rfl) ?_
  refine va_tb (v := .int ((mm_str.getD j []).getD (nI z).toNatClampNeg 0)) hx hb hT hS hi rfl dJ1_charAt_3b067_8 ?_
  refine lv_sipush (v := 255) hx hb dJ1_charAt_3b067_9 (by decide) ?_
  refine lv_iand hx hb dJ1_charAt_3b067_12 ?_
  rw [b1]
  refine lv_i2c hx hb dJ1_charAt_3b067_13 b2 ?_
  exact W.zret (v := (mm_str.getD j []).getD (nI z).toNatClampNeg 0) hx hb hr b3 (fun t ht hW => ⟨_, rfl, rfl, ht⟩) (fun q hq => nomatch hq) dJ1_charAt_3b067_14
theorem sc_recv {s : State} {H : Heap} {locs : List Loc} {A : Nat → Prop} (hE : mm_Ss adK adV A s s.heap) (hj : j < mm_str.length) (hS : va_S A s.heap H locs) : ∃ cell : Cell, H[adK j]? = some cell ∧ cell.vm.isStatics = false ∧ s.vm.findClass RJ0 = some cell.cls := by
  have h := vk_recv (hE.1 j hj) Nat.one_pos hS
  exact h
set_option maxHeartbeats 4000000 in
theorem sc_len (hj : j < mm_str.length) : Met l yJ0_length_8abf5 (.code yJ0_length_8abf5 cJ0_length_8abf5 1 (some .int) :: mm_TB) (sc_rm 4) (sc_P adK adV [.ref (adK j)]) (vp_Si (fun r => r = Int32.ofNat (mm_str.getD j []).length)) 0 0 (fun _ => False) := by
  refine Met.ofW (cc := cJ0_length_8abf5) (maxL := 1) (ret := some .int) (by decide) rfl ?_
  intro p e s m args below meth c s₁ B hml hv
  obtain ⟨rfl, hE⟩ := hv
  have hx := B.exec
  have hb := B.bytes
  have hr := B.returns
  have hts : ∀ w ∈ mm_TB, w.before _ s = true := fun w h => atoms_spec (ws := .code yJ0_length_8abf5 cJ0_length_8abf5 1 (some .int) :: mm_TB) B.pre w (List.mem_cons_of_mem _ h)
  have hown : s.vm.findClass RJ0 = some m.cls := findClass_of_methodNamed B.named
  have hlocks := B.notSynchronized
  have hS : va_S (sc_A s) s.heap s.heap [] := va_S.rf
  have hl := lv_entry ([.ref (adK j)]) (n := 1) (Nat.le_of_ble_eq_true rfl)
  rw [lg_entry_eq]
  generalize (lg_sl ([.ref (adK j)]) ++ List.replicate (1 - (lg_sl ([.ref (adK j)])).length) Slot.unset).toArray = ls at hl ⊢
  have hl : lv_has ls 1 [(0, .ref (adK j))] := hl
  have hT := (hE.of hj).2.2.2
  refine lv_aload_n hx hb dJ0_length_8abf5_0 rfl (lv_at hl 0 rfl) ?_
  refine vk_getf (v := .ref (adV j)) hx hb (hE.of hj).2.2.1 hS hown (hts _ (mm_TBc mm_W3)) (fun _ h => h) dJ0_length_8abf5_1 ?_
  refine va_tlen (v := Int32.ofNat (mm_str.getD j []).length) hx hb hT hS rfl dJ0_length_8abf5_4 ?_
  refine lv_aload_n hx hb dJ0_length_8abf5_5 rfl (lv_at hl 0 rfl) ?_
  refine vp_callSi (W.runV (C := RJ0) (As := []) (rest := [.int (Int32.ofNat (mm_str.getD j []).length)]) ⟨hx, hb, hml, hown, hts⟩ (sc_coder (adK := adK) (adV := adV) 1 hj) ⟨mm_cb (n := 0) hts (mm_TBc mm_W5) (mm_TBc mm_W6) (mm_TBc mm_W7) ⟨by decide, by decide, by decide +kernel⟩ ⟨by decide, by decide⟩, hts _ (mm_TBc mm_W8), hts _ (mm_TBc mm_W9)⟩ ⟨sc_blind, sc_recv hE hj hS, sc_pre hE hS (fun _ h => h)⟩ rfl rfl hl.1 rfl (lv_room (Nat.le_of_ble_eq_true rfl)) dJ0_length_8abf5_6 ⟨Nat.le_refl _, Nat.le_refl _⟩) (fun r hr9 => ?_)
  subst hr9
  refine lv_ishr hx hb dJ0_length_8abf5_9 ?_
  rw [sb_shr0]
  exact W.iret (v := Int32.ofNat (mm_str.getD j []).length) hx hb hr (fun t ht hW => ⟨_, rfl, rfl, ht⟩) (fun q hq => nomatch hq) dJ0_length_8abf5_10
set_option maxHeartbeats 4000000 in
theorem sc_chr {i : Int32} (hj : j < mm_str.length) (hi : mm_ix i (mm_str.getD j []).length) : Met l yJ0_charAt_5068e (.code yJ0_charAt_5068e cJ0_charAt_5068e 2 (some .char) :: mm_TB) (sc_rm 4) (sc_P adK adV [.ref (adK j), .int i]) (vp_Si (fun r => r = (mm_str.getD j []).getD i.toNatClampNeg 0)) 0 0 (fun _ => False) := by
  refine Met.ofW (cc := cJ0_charAt_5068e) (maxL := 2) (ret := some .char) (by decide) rfl ?_
  intro p e s m args below meth c s₁ B hml hv
  obtain ⟨rfl, hE⟩ := hv
  have hx := B.exec
  have hb := B.bytes
  have hr := B.returns
  have hts : ∀ w ∈ mm_TB, w.before _ s = true := fun w h => atoms_spec (ws := .code yJ0_charAt_5068e cJ0_charAt_5068e 2 (some .char) :: mm_TB) B.pre w (List.mem_cons_of_mem _ h)
  have hown : s.vm.findClass RJ0 = some m.cls := findClass_of_methodNamed B.named
  have hlocks := B.notSynchronized
  have hS : va_S (sc_A s) s.heap s.heap [] := va_S.rf
  have hl := lv_entry ([.ref (adK j), .int i]) (n := 2) (Nat.le_of_ble_eq_true rfl)
  rw [lg_entry_eq]
  generalize (lg_sl ([.ref (adK j), .int i]) ++ List.replicate (2 - (lg_sl ([.ref (adK j), .int i])).length) Slot.unset).toArray = ls at hl ⊢
  have hl : lv_has ls 2 [(0, .ref (adK j)), (1, .int i)] := hl
  refine lv_aload_n hx hb dJ0_charAt_5068e_0 rfl (lv_at hl 0 rfl) ?_
  refine vp_callSi (W.runV (C := RJ0) (As := []) (rest := []) ⟨hx, hb, hml, hown, hts⟩ (sc_latin (adK := adK) (adV := adV) 1 hj) ⟨mm_cb (n := 0) hts (mm_TBc mm_W10) (mm_TBc mm_W6) (mm_TBc mm_W11) ⟨by decide, by decide, by decide +kernel⟩ ⟨by decide, by decide⟩, hts _ (mm_TBc mm_W12), hts _ (mm_TBc mm_W13)⟩ ⟨sc_blind, sc_recv hE hj hS, sc_pre hE hS (fun _ h => h)⟩ rfl rfl hl.1 rfl (lv_room (Nat.le_of_ble_eq_true rfl)) dJ0_charAt_5068e_1 ⟨Nat.le_refl _, Nat.le_refl _⟩) (fun r hr9 => ?_)
  subst hr9
  refine lv_if_eq (tgt := 16) hx hb dJ0_charAt_5068e_4 (by decide) (fun h => absurd h (by decide)) (fun _ => ?_)
  refine lv_aload_n hx hb dJ0_charAt_5068e_7 rfl (lv_at hl 0 rfl) ?_
  refine vk_getf (v := .ref (adV j)) hx hb (hE.of hj).2.2.1 hS hown (hts _ (mm_TBc mm_W3)) (fun _ h => h) dJ0_charAt_5068e_8 ?_
  refine lv_iload_n hx hb dJ0_charAt_5068e_11 rfl (lv_at hl 1 rfl) ?_
  refine vp_callSi (W.runS (As := [.ref (adV j), .int i]) (rest := []) ⟨hx, hb, hml, hown, hts⟩ (sc_char1 (adK := adK) (adV := adV) hj hi) ⟨mm_cb (n := 2) hts (mm_TBc mm_W14) (mm_TBc mm_W17) (mm_TBc mm_W15) ⟨by decide, by decide, by decide +kernel⟩ ⟨by decide, by decide⟩, hts _ (mm_TBc mm_W16)⟩ ⟨sc_blind, sc_pre hE hS (fun _ h => h)⟩ rfl rfl hl.1 rfl (lv_room (Nat.le_of_ble_eq_true rfl)) dJ0_charAt_5068e_12 ⟨Nat.le_refl _, Nat.le_refl _⟩) (fun r hr9 => ?_)
  subst hr9
  exact W.zret (v := (mm_str.getD j []).getD i.toNatClampNeg 0) hx hb hr (sc_byte hj _).2.2 (fun t ht hW => ⟨_, rfl, rfl, ht⟩) (fun q hq => nomatch hq) dJ0_charAt_5068e_15
end SC
