/-! THE START: Strings, statics and tables as the Statement gives them -/
def sx_F : List Cond := flatC (Cond.and given_1 narrow_1)
def sx_t (i : Nat) : Term := .string (mm_six.getD i ("", 0, "")).1 (mm_six.getD i ("", 0, "")).2.1
def sx_v (i : Nat) : Term := .field (sx_t i) "java/lang/String" "value" "[B"
def sx_c (i : Nat) : List Cond := [Cond.exactly (sx_t i) "java/lang/String", Cond.eq (.field (sx_t i) "java/lang/String" "coder" "B") (.int 0), Cond.arrayOf (sx_v i) .byte, Cond.eq (.length (sx_v i)) (.int (Int32.ofNat (mm_str.getD i []).length))] ++ (List.range (mm_str.getD i []).length).map (fun j => Cond.eq (.elem (sx_v i) (.int (Int32.ofNat j))) (.int ((mm_str.getD i []).getD j 0)))
theorem sx_mem {i p n : Nat} (h : (sx_F.drop p).take n = sx_c i) : ∀ w ∈ sx_c i, w ∈ sx_F := fun w hw => by
  rw [← h] at hw
  exact List.mem_of_mem_drop (List.mem_of_mem_take hw)
theorem sx_m0 : (sx_F.drop 65).take 9 = sx_c 0 := by decide +kernel
theorem sx_m1 : (sx_F.drop 74).take 9 = sx_c 1 := by decide +kernel
theorem sx_m2 : (sx_F.drop 83).take 8 = sx_c 2 := by decide +kernel
theorem sx_m3 : (sx_F.drop 91).take 8 = sx_c 3 := by decide +kernel
theorem sx_m4 : (sx_F.drop 99).take 9 = sx_c 4 := by decide +kernel
theorem sx_m5 : (sx_F.drop 108).take 7 = sx_c 5 := by decide +kernel
theorem sx_m6 : (sx_F.drop 115).take 9 = sx_c 6 := by decide +kernel
theorem sx_m7 : (sx_F.drop 124).take 10 = sx_c 7 := by decide +kernel
theorem sx_m8 : (sx_F.drop 134).take 8 = sx_c 8 := by decide +kernel
theorem sx_m9 : (sx_F.drop 142).take 9 = sx_c 9 := by decide +kernel
theorem sx_m10 : (sx_F.drop 151).take 8 = sx_c 10 := by decide +kernel
theorem sx_m11 : (sx_F.drop 159).take 9 = sx_c 11 := by decide +kernel
theorem sx_m12 : (sx_F.drop 169).take 9 = sx_c 12 := by decide +kernel
theorem sx_m13 : (sx_F.drop 178).take 11 = sx_c 13 := by decide +kernel
theorem sx_m14 : (sx_F.drop 193).take 6 = sx_c 14 := by decide +kernel
theorem sx_m15 : (sx_F.drop 199).take 7 = sx_c 15 := by decide +kernel
theorem sx_m16 : (sx_F.drop 206).take 9 = sx_c 16 := by decide +kernel
theorem sx_m17 : (sx_F.drop 189).take 4 = sx_c 17 := by decide +kernel
theorem sx_all {i : Nat} (hi : i < 18) : ∀ w ∈ sx_c i, w ∈ sx_F := by
  have h : i = 0 ∨ i = 1 ∨ i = 2 ∨ i = 3 ∨ i = 4 ∨ i = 5 ∨ i = 6 ∨ i = 7 ∨ i = 8 ∨ i = 9 ∨ i = 10 ∨ i = 11 ∨ i = 12 ∨ i = 13 ∨ i = 14 ∨ i = 15 ∨ i = 16 ∨ i = 17 := by omega
  rcases h with rfl | rfl | rfl | rfl | rfl | rfl | rfl | rfl | rfl | rfl | rfl | rfl | rfl | rfl | rfl | rfl | rfl | rfl
  · exact sx_mem sx_m0
  · exact sx_mem sx_m1
  · exact sx_mem sx_m2
  · exact sx_mem sx_m3
  · exact sx_mem sx_m4
  · exact sx_mem sx_m5
  · exact sx_mem sx_m6
  · exact sx_mem sx_m7
  · exact sx_mem sx_m8
  · exact sx_mem sx_m9
  · exact sx_mem sx_m10
  · exact sx_mem sx_m11
  · exact sx_mem sx_m12
  · exact sx_mem sx_m13
  · exact sx_mem sx_m14
  · exact sx_mem sx_m15
  · exact sx_mem sx_m16
  · exact sx_mem sx_m17
theorem sx_ch {α : Type} {r : Nat → α → Prop} (h : ∀ i, ∃ q, r i q) : ∃ f : Nat → α, ∀ i, r i (f i) := ⟨fun i => Classical.choose (h i), fun i => Classical.choose_spec (h i)⟩
theorem sx_len : ∀ i, i < 18 → (mm_str.getD i []).length < 100 := by decide +kernel
theorem sx_Ss {args : Array Value} {s : State} {A : Nat → Prop} (hs : ∀ w ∈ sx_F, w.before args s = true) (hA : ∀ a : Nat, a < s.heap.size → ¬ A a) : ∃ adK adV : Nat → Nat, (∀ j : Nat, j < mm_str.length → vk_S 1 [(mm_str.getD j []).length] [mm_str.getD j []] (fun _ => adK j) (fun _ => adV j) A s s.heap) ∧ ∀ i : Nat, i < 18 → (sx_t i).eval args s none [] s = some (.ref (adK i)) := by
  have h0 : ∀ i : Nat, ∃ q : Nat × Nat, i < 18 → (sx_t i).eval args s none [] s = some (.ref q.1) ∧ vk_S 1 [(mm_str.getD i []).length] [mm_str.getD i []] (fun _ => q.1) (fun _ => q.2) A s s.heap := by
    intro i
    by_cases hi : i < 18
    · have hc : ∀ w ∈ sx_c i, w.before args s = true := fun w hw => hs w (sx_all hi w hw)
      have hl := sx_len i hi
      obtain ⟨adK, adV, h1, h2⟩ := vk_Sof (args := args) (s := s) (N := 1) (tm := fun _ => sx_t i) (len := [(mm_str.getD i []).length]) (byt := [mm_str.getD i []]) (A := A) (fun k hk => by rw [show k = 0 by omega]; show (mm_str.getD i []).length < 2 ^ 31; omega) (fun k hk => hc _ (by simp [sx_c])) (fun k hk => hc _ (by simp [sx_c])) (fun k hk => hc _ (by simp [sx_c, sx_v])) (fun k hk => by rw [show k = 0 by omega]; exact hc _ (by simp [sx_c, sx_v])) (fun k hk j hj => by
          rw [show k = 0 by omega] at hj ⊢
          have hj : j < (mm_str.getD i []).length := hj
          refine hc _ (List.mem_append_right _ (List.mem_map.mpr ⟨j, List.mem_range.mpr hj, rfl⟩))) (fun k j hk hj hne => by omega) hA
      refine ⟨(adK 0, adV 0), fun _ => ⟨h2 0 (by decide), ⟨fun k hk => ?_, fun k j hk hj _ => by omega⟩⟩⟩
      rw [show k = 0 by omega]
      exact h1.1 0 (by decide)
    · exact ⟨(0, 0), fun h => absurd h hi⟩
  obtain ⟨ad, had⟩ := sx_ch h0
  exact ⟨fun i => (ad i).1, fun i => (ad i).2, fun i hi => (had i hi).2, fun i hi => (had i hi).1⟩
theorem sx_R : mm_six.all (fun q => lw_tbl.contains (.stringRef q.1 q.2.1 q.2.2)) = true := by decide +kernel
theorem sx_M : mm_msg.all (fun q => lw_tbl.contains (.stringRef "VillageBoard" q.1 q.2)) = true := by decide +kernel
def sx_mp (k : Nat) : Nat := ([(90, 31), (142, 215), (172, 251), (196, 297), (233, 324), (235, 351), (259, 374), (264, 403), (275, 427), (284, 458), (296, 485), (310, 522), (312, 559), (321, 582), (323, 608), (342, 232), (344, 281)].lookup k).getD 0
theorem sx_E : mm_msg.all (fun q => decide (sx_F[sx_mp q.1]? = some (Cond.exactly (.string "VillageBoard" q.1) "java/lang/String"))) = true := by decide +kernel
theorem sx_l1 : lw_tbl.contains (.laysStatic Bundle.tN "UNASSIGNED_STACK" Bundle.steD) = true := by decide +kernel
theorem sx_l2 : lw_tbl.contains (.laysStatic Bundle.tN "SUPPRESSED_SENTINEL" Bundle.listD) = true := by decide +kernel
theorem sx_l3 : lw_tbl.contains (.laysStatic "java/lang/String" "COMPACT_STRINGS" "Z") = true := by decide +kernel
theorem sx_l4 : lw_tbl.contains (.laysStatic "jdk/internal/util/Preconditions" "SIOOBE_FORMATTER" "Ljava/util/function/BiFunction;") = true := by decide +kernel
theorem sx_i1 : lw_tbl.contains (.initialized Bundle.tN) = true := by decide +kernel
theorem sx_i3 : lw_tbl.contains (.initialized "java/lang/String") = true := by decide +kernel
theorem sx_i4 : lw_tbl.contains (.initialized "jdk/internal/util/Preconditions") = true := by decide +kernel
theorem sx_a1 : lw_tbl.contains (.arrayClass .int) = true := by decide +kernel
theorem sx_a2 : lw_tbl.contains (.arrayClass .boolean) = true := by decide +kernel
theorem sx_a3 : lw_tbl.contains (.arrayClass .long) = true := by decide +kernel
theorem sx_f4 : (Cond.isRef (.static Bundle.tN "UNASSIGNED_STACK" Bundle.steD)) ∈ sx_F := List.mem_of_getElem? (i := 4) (by decide +kernel)
theorem sx_f5 : (Cond.isRef (.static Bundle.tN "SUPPRESSED_SENTINEL" Bundle.listD)) ∈ sx_F := List.mem_of_getElem? (i := 5) (by decide +kernel)
theorem sx_f6 : (Cond.eq (.static "java/lang/String" "COMPACT_STRINGS" "Z") (.int 1)) ∈ sx_F := List.mem_of_getElem? (i := 6) (by decide +kernel)
theorem sx_f7 : (Cond.isRef (.static "jdk/internal/util/Preconditions" "SIOOBE_FORMATTER" "Ljava/util/function/BiFunction;")) ∈ sx_F := List.mem_of_getElem? (i := 7) (by decide +kernel)
theorem sx_f20 : (Cond.not (.castable mm_NSE mm_IAE)) ∈ sx_F := List.mem_of_getElem? (i := 20) (by decide +kernel)
theorem sx_f30 : (Cond.not (.castable mm_IAE mm_NSE)) ∈ sx_F := List.mem_of_getElem? (i := 30) (by decide +kernel)
theorem sx_n0 : lw_tbl.contains (.instantiable RX0 3) = true := by decide +kernel
theorem sx_n1 : lw_tbl.contains (.instantiable RX1 3) = true := by decide +kernel
theorem sx_n2 : lw_tbl.contains (.instantiable RX3 10) = true := by decide +kernel
theorem sx_n3 : lw_tbl.contains (.instantiable RX4 6) = true := by decide +kernel
theorem sx_n4 : lw_tbl.contains (.instantiable RX5 8) = true := by decide +kernel
theorem sx_n5 : lw_tbl.contains (.instantiable RX6 6) = true := by decide +kernel
theorem sx_n6 : lw_tbl.contains (.instantiable RX7 3) = true := by decide +kernel
theorem sx_n7 : lw_tbl.contains (.instantiable RX8 16) = true := by decide +kernel
theorem sx_n8 : lw_tbl.contains (.instantiable RX9 55) = true := by decide +kernel
theorem sx_in {w : Cond} (h : lw_tbl.contains w = true) : w ∈ lw_tbl := List.contains_iff_mem.mp h
theorem sx_TB {w : Cond} (h : w ∈ mm_TB) : w ∈ lw_tbl := (List.mem_filter.mp h).1
/-- classes and array classes -/
theorem sx_K {args : Array Value} {s : State} (hts : ∀ w ∈ lw_tbl, w.before args s = true) : ∃ (D : va_G) (kA : Nat → ClassId), va_K D vwCl (mm_tys kA) s := by
  have hc : ∀ ci : Nat, ∃ q : ClassId × (Nat → Nat), ∀ z : vw_C, vwCl[ci]? = some z → u_Kn s z.1 z.2.1 z.2.2 q.1 q.2 := by
    intro ci
    match ci with
    | 0 => obtain ⟨a, b, h⟩ := u_known (C := RX0) (T := TX0) (N := 3) (n := 3) hts (fun w hw => sx_TB (mm_u0 w hw)) (hts _ (sx_in sx_n0)); exact ⟨(a, b), fun z hz => by cases hz; exact h⟩
    | 1 => obtain ⟨a, b, h⟩ := u_known (C := RX1) (T := TX1) (N := 3) (n := 3) hts (fun w hw => sx_TB (mm_u1 w hw)) (hts _ (sx_in sx_n1)); exact ⟨(a, b), fun z hz => by cases hz; exact h⟩
    | 2 => obtain ⟨a, b, h⟩ := u_known (C := RX3) (T := TX3) (N := 10) (n := 10) hts (fun w hw => sx_TB (mm_u2 w hw)) (hts _ (sx_in sx_n2)); exact ⟨(a, b), fun z hz => by cases hz; exact h⟩
    | 3 => obtain ⟨a, b, h⟩ := u_known (C := RX4) (T := TX4) (N := 6) (n := 6) hts (fun w hw => sx_TB (mm_u3 w hw)) (hts _ (sx_in sx_n3)); exact ⟨(a, b), fun z hz => by cases hz; exact h⟩
    | 4 => obtain ⟨a, b, h⟩ := u_known (C := RX5) (T := TX5) (N := 8) (n := 8) hts (fun w hw => sx_TB (mm_u4 w hw)) (hts _ (sx_in sx_n4)); exact ⟨(a, b), fun z hz => by cases hz; exact h⟩
    | 5 => obtain ⟨a, b, h⟩ := u_known (C := RX6) (T := TX6) (N := 6) (n := 6) hts (fun w hw => sx_TB (mm_u5 w hw)) (hts _ (sx_in sx_n5)); exact ⟨(a, b), fun z hz => by cases hz; exact h⟩
    | 6 => obtain ⟨a, b, h⟩ := u_known (C := RX7) (T := TX7) (N := 3) (n := 3) hts (fun w hw => sx_TB (mm_u6 w hw)) (hts _ (sx_in sx_n6)); exact ⟨(a, b), fun z hz => by cases hz; exact h⟩
    | 7 => obtain ⟨a, b, h⟩ := u_known (C := RX8) (T := TX8) (N := 16) (n := 16) hts (fun w hw => sx_TB (mm_u7 w hw)) (hts _ (sx_in sx_n7)); exact ⟨(a, b), fun z hz => by cases hz; exact h⟩
    | 8 => obtain ⟨a, b, h⟩ := u_known (C := RX9) (T := TX9) (N := 55) (n := 55) hts (fun w hw => sx_TB (mm_u8 w hw)) (hts _ (sx_in sx_n8)); exact ⟨(a, b), fun z hz => by cases hz; exact h⟩
    | n + 9 => exact ⟨(default, fun _ => 0), fun z hz => by simp [vwCl] at hz⟩
  obtain ⟨f, hf⟩ := sx_ch hc
  have ha : ∀ {t : FieldType}, (Cond.arrayClass t).before args s = true → ∃ c, s.vm.findClass ("[" ++ t.toString) = some c ∧ ArrOfT s c t := fun {t} h => by
    obtain ⟨c, k, comp, h1, h2, h3⟩ := Cond.arrayClass_spec h
    exact ⟨c, h1, fun n z => ⟨fun k h => (by cases h), k, h2, comp, h3⟩⟩
  obtain ⟨c1, a1, b1⟩ := ha (hts _ (sx_in sx_a1))
  obtain ⟨c2, a2, b2⟩ := ha (hts _ (sx_in sx_a2))
  obtain ⟨c3, a3, b3⟩ := ha (hts _ (sx_in sx_a3))
  refine ⟨(fun k => (f k).1, fun k => (f k).2), fun k => if k = 100 then c1 else if k = 101 then c2 else c3, fun c q h => hf c q h, fun k q h => ?_⟩
  match k, h with
  | 0, h => cases h; exact ⟨b1, a1⟩
  | 1, h => cases h; exact ⟨b2, a2⟩
  | 2, h => cases h; exact ⟨b3, a3⟩
  | n + 3, h => simp [mm_tys] at h
def sx_σ (b : Nat) (adK : Nat → Nat) : Nat → Nat := fun a => if a = mm_SC then b else adK (a - mm_SB)
theorem sx_σ1 (b : Nat) (adK : Nat → Nat) : sx_σ b adK mm_SC = b := if_pos rfl
theorem sx_σ2 (b : Nat) (adK : Nat → Nat) (j : Nat) : sx_σ b adK (mm_SB + j) = adK j := by
  rw [sx_σ, if_neg (by simp only [mm_SB, mm_SC]; omega), Nat.add_sub_cancel_left]
theorem sx_Ev {s : State} {b L : Nat} {xs : Nat → Int32} {A : Nat → Prop} (hts : ∀ w ∈ lw_tbl, w.before #[Value.ref b] s = true) (hs : ∀ w ∈ sx_F, w.before #[Value.ref b] s = true) (hX : va_X b L xs s s.heap) (hbl : b < s.heap.size) (hA : ∀ a : Nat, a < s.heap.size → ¬ A a) : ∃ adK : Nat → Nat, mm_Ev (sx_σ b adK) (L, xs) A s s.heap := by
  obtain ⟨adK, adV, h1, h2⟩ := sx_Ss hs hA
  refine ⟨adK, ⟨adV, ?_⟩, ?_, ?_, ?_, ?_, ?_, ?_, ?_, ?_, ?_, ?_⟩
  · rw [show (fun j => sx_σ b adK (mm_SB + j)) = adK from funext (sx_σ2 b adK)]
    exact ⟨h1, va_Zof (hts _ (sx_in sx_l3)) (hts _ (sx_in sx_i3)) (va_eqt (hs _ sx_f6)) hA, va_Zqof (hts _ (sx_in sx_l4)) (hts _ (sx_in sx_i4)) (hs _ sx_f7) hA⟩
  · intro j q hq
    rw [sx_σ2]
    have hj : j < 18 := (List.getElem?_eq_some_iff.mp hq).1
    have e : mm_six.getD j ("", 0, "") = q := by rw [List.getD_eq_getElem?_getD, hq]; rfl
    have h3 := h2 j hj
    rw [sx_t, e] at h3
    exact vk_R.of (hts _ (sx_in (List.all_eq_true.mp sx_R q (List.mem_of_getElem? hq)))) h3
  · intro q hq
    have h3 := of_decide_eq_true (List.all_eq_true.mp sx_E q hq)
    obtain ⟨a, c, cA, kA, q1, -⟩ := Cond.exactly_spec (args := #[Value.ref b]) (first := s) (o := none) (s := s) (idx := []) (hs _ (List.mem_of_getElem? h3))
    exact ⟨a, vk_R.of (hts _ (sx_in (List.all_eq_true.mp sx_M q hq))) q1⟩
  · exact vx_Zqof (hts _ (sx_in sx_l1)) (hts _ (sx_in sx_i1)) (hs _ sx_f4) hA
  · exact vx_Zqof (hts _ (sx_in sx_l2)) (hts _ (sx_in sx_i1)) (hs _ sx_f5) hA
  · intro w hw
    have hw := List.mem_filter.mp hw
    exact va_Nw.of (mm_isN_tab hw.2) (hts w hw.1)
  · exact va_Nc.of (hs _ sx_f30)
  · exact va_Nc.of (hs _ sx_f20)
  · rw [sx_σ1]; exact hX
  · rw [sx_σ1]; exact hbl
  · rw [sx_σ1]; exact hA b hbl
