/-! WHAT STANDS ROUND A RUN: Strings, statics, words of the tables that ride in another way, the script -/
def mm_isN (w : Cond) : Bool := match w with
  | .castable _ _ => true
  | .declares _ => true
  | .methodLinkNest _ _ _ _ => true
  | _ => false
def mm_NW : List Cond := lw_tbl.filter mm_isN
theorem mm_isN_warm {w : Cond} (hw : mm_isN w = true) {s U : State} (hW : s.WarmedH U.vm) (h : va_Nw w s) : va_Nw w U := by
  unfold mm_isN at hw
  split at hw
  · exact va_Nw.warmC hW h
  · exact va_Nw.warmD hW h
  · exact va_Nw.warmM hW h
  · cases hw
theorem mm_isN_tab {w : Cond} (hw : mm_isN w = true) : w.onTables = true := by
  unfold mm_isN at hw
  split at hw
  · rfl
  · rfl
  · rfl
  · cases hw
/-- the String constants of the reader and the rules: whose pool, their entries and texts -/
def mm_six : List (String × Nat × String) := [("VillageBoard$Reader", 57, "north"), ("VillageBoard$Reader", 67, "south"), ("VillageBoard$Reader", 69, "free"), ("VillageBoard$Reader", 71, "road"), ("VillageBoard$Reader", 76, "takes"), ("VillageBoard$Reader", 144, "not"), ("VillageBoard$Rules", 31, "helps"), ("VillageBoard$Rules", 33, "guards"), ("VillageBoard$Rules", 35, "fort"), ("VillageBoard$Rules", 37, "worth"), ("VillageBoard$Rules", 39, "home"), ("VillageBoard$Rules", 41, "takes"), ("VillageBoard$Rules", 43, "turns"), ("VillageBoard$Rules", 45, "evening"), ("VillageBoard$Reader", 156, "or"), ("VillageBoard$Reader", 158, "and"), ("VillageBoard$Reader", 90, "style"), ("VillageBoard$Rules", 47, "")]
/-- the messages of the exceptions -/
def mm_msg : List (Nat × String) := [(90, "the tape has not so many bytes"), (142, "no such count"), (172, "no such thing of a village"), (196, "no such thing of a side"), (233, "no such thing of a look"), (235, "not 0 to 3 evenings"), (259, "not an evening of 0 to 29"), (264, "not 0 to 30 evenings"), (275, "no such thing of a planting"), (284, "no such thing of styles"), (296, "no such thing of the next evening"), (310, "no such style, or thing of a game"), (312, "both styles are one"), (321, "no such thing of years"), (323, "not 0 to 60 evenings"), (342, "no such village"), (344, "no such side")]
def mm_NSE : String := "java/util/NoSuchElementException"
def mm_IAE : String := "java/lang/IllegalArgumentException"
def mm_EN (E : Nat) : String := if E = 0 then mm_NSE else mm_IAE
def mm_Ev (σ : Nat → Nat) (G : mm_G) (A : Nat → Prop) (U : State) (H : Heap) : Prop :=
  (∃ adV : Nat → Nat, mm_Ss (fun j => σ (mm_SB + j)) adV A U H) ∧ (∀ (j : Nat) (q : String × Nat × String), mm_six[j]? = some q → vk_R q.1 q.2.1 q.2.2 (σ (mm_SB + j)) U) ∧ (∀ q ∈ mm_msg, ∃ sa, vk_R "VillageBoard" q.1 q.2 sa U) ∧
  vx_Zq Bundle.tN "UNASSIGNED_STACK" Bundle.steD A U H ∧ vx_Zq Bundle.tN "SUPPRESSED_SENTINEL" Bundle.listD A U H ∧ (∀ w ∈ mm_NW, va_Nw w U) ∧ va_Nc mm_IAE mm_NSE U ∧ va_Nc mm_NSE mm_IAE U ∧
  (va_X (σ mm_SC) G.1 G.2 U H ∧ σ mm_SC < H.size ∧ ¬ A (σ mm_SC))
theorem mm_Ev.warm {σ : Nat → Nat} {G : mm_G} {A : Nat → Prop} {u U : State} {H : Heap} (hW : u.WarmedH U.vm) (h : mm_Ev σ G A u H) : mm_Ev σ G A U H := by
  obtain ⟨⟨adV, h1⟩, h2, h3, h4, h5, h6, h7, h8, h9⟩ := h
  exact ⟨⟨adV, h1.moved hW.alike⟩, fun j q hq => (h2 j q hq).warm hW, fun q hq => by obtain ⟨sa, hs⟩ := h3 q hq; exact ⟨sa, hs.warm hW⟩, h4.moved hW.alike, h5.moved hW.alike, fun w hw => mm_isN_warm (List.mem_filter.mp hw).2 hW (h6 w hw), h7.moved hW.alike, h8.moved hW.alike, h9.1.moved hW.alike, h9.2⟩
theorem mm_Ev.same {σ : Nat → Nat} {G : mm_G} {A : Nat → Prop} {u U : State} {H : Heap} (hv : U.vm = u.vm) (h : mm_Ev σ G A u H) : mm_Ev σ G A U H := by
  obtain ⟨⟨adV, h1⟩, h2, h3, h4, h5, h6, h7, h8, h9⟩ := h
  have hal : u.vm.Alike U.vm := by rw [hv]; exact Vm.Alike.refl _
  exact ⟨⟨adV, h1.moved hal⟩, fun j q hq => (h2 j q hq).same hv, fun q hq => by obtain ⟨sa, hs⟩ := h3 q hq; exact ⟨sa, hs.same hv⟩, h4.moved hal, h5.moved hal, fun w hw => va_Nw.same (mm_isN_tab (List.mem_filter.mp hw).2) hv.symm (h6 w hw), h7.moved hal, h8.moved hal, h9.1.moved hal, h9.2⟩
theorem mm_Ev.kept {σ : Nat → Nat} {G : mm_G} {A : Nat → Prop} {U : State} {H H1 : Heap} (h : mm_Ev σ G A U H) (hz : H.size ≤ H1.size) (hq : ∀ a : Nat, a < H.size → ¬ A a → H1[a]? = H[a]?) : mm_Ev σ G A U H1 := by
  obtain ⟨⟨adV, h1⟩, h2, h3, h4, h5, h6, h7, h8, h9, h10, h11⟩ := h
  exact ⟨⟨adV, h1.kept hq⟩, h2, h3, h4.kept hq, h5.kept hq, h6, h7, h8, h9.kept (hq _ h10 h11), Nat.lt_of_lt_of_le h10 hz, h11⟩
theorem mm_Ev.narrow {σ : Nat → Nat} {G : mm_G} {A B : Nat → Prop} {U : State} {H : Heap} (h : mm_Ev σ G A U H) (hAB : ∀ q, B q → A q) : mm_Ev σ G B U H := by
  obtain ⟨⟨adV, h1⟩, h2, h3, h4, h5, h6, h7, h8, h9, h10, h11⟩ := h
  exact ⟨⟨adV, h1.narrow hAB⟩, h2, h3, h4.narrow hAB, h5.narrow hAB, h6, h7, h8, h9, h10, fun hb => h11 (hAB _ hb)⟩
theorem mm_Ev.re {n n' : Nat} {σ σ' : Nat → Nat} {G : mm_G} {A : Nat → Prop} {U : State} {H : Heap} (h : mm_Ev σ G A U H) (ha : mm_ag n n' σ σ') (hn : n' ≤ mm_SC) : mm_Ev σ' G A U H := by
  obtain ⟨⟨adV, h1⟩, h2, h3, h4, h5, h6, h7, h8, h9⟩ := h
  have e1 : ∀ j, σ' (mm_SB + j) = σ (mm_SB + j) := fun j => ha _ (Or.inr (by simp only [mm_SC] at hn; simp only [mm_SB]; omega))
  have e2 : σ' mm_SC = σ mm_SC := ha _ (Or.inr hn)
  refine ⟨⟨adV, ?_⟩, fun j q hq => by rw [e1]; exact h2 j q hq, h3, h4, h5, h6, h7, h8, by rw [e2]; exact h9⟩
  rw [show (fun j => σ' (mm_SB + j)) = (fun j => σ (mm_SB + j)) from funext e1]
  exact h1
