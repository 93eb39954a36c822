/-! WHAT HOLDS BETWEEN CALLS is kept by board -/
theorem lnv_ok {b : Nat → Int32} {s s' its : Nat} {p p' : pl_S} (hp : pl_ok p) (h : ln_v b p its s = some (.inr (s', p'))) : pl_ok p' := by
  rw [ln_v] at h
  split at h
  · rename_i hn
    split at h
    · cases h
    · split at h
      · cases h
      · cases h; exact pl_okV hp hn _ _ _
  · cases h
theorem lnr_ok {b : Nat → Int32} {s s' : Nat} {p p' : pl_S} (hp : pl_ok p) (h : ln_r b p s = some (.inr (s', p'))) : pl_ok p' := by
  rw [ln_r] at h
  split at h
  · rename_i hn
    split at h
    · cases h
    · rename_i ha
      split at h
      · cases h
      · rename_i hc
        split at h
        · cases h
        · rename_i hac
          cases h
          exact pl_okR hp hn (ln_a_r ha).2.2 (ln_a_r hc).2.2 (fun e => hac (Or.inl e)) ((Bool.not_eq_true _).mp (fun e => hac (Or.inr e)))
  · cases h
theorem ln_okp {b : Nat → Int32} {n F s s' : Nat} {p p' : pl_S} (hb : tx_ok b n) (hs : s ≤ n) (hp : pl_ok p) (h : ln b F p s = some (.inr (s', p'))) : pl_ok p' := by
  have hN := tx_N_n hb hs
  have he : ∀ (k : List (Nat × Int32) → pl_S) (s1 : Nat) (p1 : pl_S), (∀ c, px_ht c 0 1 → pl_ok (k c)) → ln_e (px b F 0 0 (tx_N b s)) k = some (.inr (s1, p1)) → pl_ok p1 := fun k s1 p1 hk h => by
    cases e : px b F 0 0 (tx_N b s) with
    | none => rw [e] at h; cases h
    | some q =>
      rw [e] at h
      cases q with
      | inl x => cases h
      | inr y =>
        obtain ⟨s2, c⟩ := y
        cases h
        have hpq := px_q hb F 0 0 _ _ (Or.inl (by decide)) (by decide) hN e
        exact hk c (hpq.2.2.2.2 0 (by decide))
  have h0 : ∀ s1 p1, ln_0 b F p s = some (.inr (s1, p1)) → pl_ok p1 := fun s1 p1 h => by
    rw [ln_0] at h
    split at h
    · exact lnv_ok hp h
    · split at h
      · exact lnv_ok hp h
      · split at h
        · exact lnv_ok hp h
        · split at h
          · exact lnr_ok hp h
          · split at h
            · split at h
              · cases h
              · exact he _ _ _ (fun c hc => pl_okT hp hc) h
            · split at h
              · split at h
                · rename_i hsc; exact he _ _ _ (fun c hc => pl_okS hp hsc hc) h
                · cases h
              · cases h
  rw [ln] at h
  split at h
  · cases h
  · cases h
  · rename_i e
    split at h
    · cases h; exact h0 _ _ e
    · cases h
theorem rd_ok {b : Nat → Int32} {n : Nat} (hb : tx_ok b n) : ∀ g p s p', s ≤ n → pl_ok p → rd b 8000 g p s = some (.inr p') → pl_ok p' := by
  intro g
  induction g with
  | zero => intro p s p' _ _ h; cases h
  | succ g ih =>
    intro p s p' hs hp h
    rw [rd] at h
    split at h
    · cases h; exact hp
    · split at h
      · cases h
      · cases h
      · rename_i e; exact ih _ _ _ (ln_q hb hs e).2 (ln_okp hb hs hp e) h
theorem q_y0_ok {sc j : Nat} (hs : sc ≤ 3) (hj : j < 2) : q_y0 sc j = -1 ∨ ∃ r, r < sc ∧ q_y0 sc j = vb_i r := by
  rw [q_y0]
  split
  · rename_i h; exact Or.inr ⟨j, h, rfl⟩
  · split
    · exact Or.inl rfl
    · exact Or.inr ⟨sc - 1, by omega, rfl⟩
theorem pl_inv {p : pl_S} (hp : pl_ok p) : vl_inv (pl_l p) ∧ vl_bel (pl_l p) ∧ vx_inv (pl_l p) (q_x0 p) := by
  obtain ⟨h1, h2, h3, h4, h5, h6, h7, h8, h9, h10, h11, h12⟩ := hp
  exact ⟨fun a b _ _ => ⟨h6 a b, h7 a⟩, fun v _ => h5 v, fun j hj => q_y0_ok h3 hj, ⟨fun j hj => ⟨h9 j hj, h9 j hj⟩, h10, fun _ _ _ h => h⟩, (show (0 : Nat) ≤ 999 by decide)⟩
def lw_I (σ : vb_St) : Prop := vs_inv σ ∧ vl_bel (vs_l σ) ∧ vs_tb σ
theorem li_board {σ : vb_St} (h : lw_I σ) (h7 : (vs_p σ).length ≤ 700) (v : Int32) : lw_I (st_board σ v) := by
  obtain ⟨hI, hlb, htb⟩ := h
  rw [st_board]
  split
  · exact ⟨hI, hlb, htb⟩
  · rename_i m hm
    obtain ⟨lm, _⟩ := vb_idx_some (by omega) hm
    have hb := q_b_ok (t := vs_p σ) (n := m) (by omega) h7 htb
    split
    · exact ⟨hI, hlb, htb⟩
    · rename_i r hr
      cases r with
      | inl x => exact ⟨hI, hlb, fun x hx => absurd hx List.not_mem_nil⟩
      | inr p =>
        have hp := rd_ok hb 800 pl_0 _ p (tx_S_n hb (Nat.zero_le _)) pl_ok0 hr
        obtain ⟨k1, k2, k3⟩ := pl_inv hp
        exact ⟨⟨k1, k3, (fun y hy => absurd hy List.not_mem_nil), (fun z hz => by cases hz)⟩, k2, fun x hx => absurd hx List.not_mem_nil⟩
theorem q_b1_0 (v : Int32) (k : Nat) : 0 ≤ q_b1 v k := by
  rw [q_b1, Int32.le_iff_toInt_le]
  generalize (v.toUInt32 >>> ((vb_i k).toUInt32 &&& Int32.toUInt32 31)).toInt32 = w
  have : (w &&& vb_i 255).toBitVec.msb = false := by
    rw [Int32.toBitVec_and, BitVec.msb_and]
    rw [show (vb_i 255).toBitVec.msb = false by decide, Bool.and_false]
  have e : (0 : Int32).toInt = 0 := by decide
  rw [e]
  show 0 ≤ (_ : BitVec 32).toInt
  rw [BitVec.toInt_eq_msb_cond, this]
  simp
theorem li_feed {σ : vb_St} (h : lw_I σ) (a b c e f : Int32) : lw_I (st_feed σ a b c e f) := by
  obtain ⟨hI, hlb, htb⟩ := h
  refine ⟨i_feed hI a b c e f, ?_, ?_⟩
  · rw [st_feed]; split <;> exact hlb
  · rw [st_feed]
    split
    · have hq : ∀ v x, x ∈ q_bs v → 0 ≤ x := fun v x hx => by
        simp only [q_bs, List.mem_cons, List.not_mem_nil, or_false] at hx
        rcases hx with rfl | rfl | rfl | rfl <;> exact q_b1_0 _ _
      intro x hx
      have hx : x ∈ vs_p σ ++ q_bs a ++ q_bs b ++ q_bs c ++ q_bs e ++ q_bs f := hx
      simp only [List.mem_append] at hx
      rcases hx with ((((hx | hx) | hx) | hx) | hx) | hx
      · exact htb x hx
      all_goals exact hq _ x hx
    · exact htb
theorem li_move {σ : vb_St} (h : lw_I σ) (hn : vb_n (vs_l σ) ≤ 10) (h3 : vb_sc (vs_l σ) ≤ 3) (a b : Int32) : lw_I (st_move σ a b) := by
  obtain ⟨hI, hlb, htb⟩ := h
  have e : vs_l (st_move σ a b) = vs_l σ ∧ vs_p (st_move σ a b) = vs_p σ := by
    rw [st_move]
    (repeat' split) <;> exact ⟨rfl, rfl⟩
  exact ⟨i_move hI hn a b, by rw [e.1]; exact hlb, by rw [vs_tb, e.2]; exact htb⟩
theorem li_pass {σ : vb_St} (h : lw_I σ) (hn : vb_n (vs_l σ) ≤ 10) (h3 : vb_sc (vs_l σ) ≤ 3) : lw_I (st_pass σ) := by
  obtain ⟨hI, hlb, htb⟩ := h
  have e : vs_l (st_pass σ) = vs_l σ ∧ vs_p (st_pass σ) = vs_p σ := by
    rw [st_pass]
    (repeat' split) <;> exact ⟨rfl, rfl⟩
  exact ⟨i_pass hI hn, by rw [e.1]; exact hlb, by rw [vs_tb, e.2]; exact htb⟩
theorem li_fly {σ : vb_St} (h : lw_I σ) (hn : vb_n (vs_l σ) ≤ 10) (h3 : vb_sc (vs_l σ) ≤ 3) (a b : Int32) : lw_I (st_fly σ a b) := by
  obtain ⟨hI, hlb, htb⟩ := h
  have e : vs_l (st_fly σ a b) = vs_l σ ∧ vs_p (st_fly σ a b) = vs_p σ := by
    rw [st_fly]
    (repeat' split) <;> exact ⟨rfl, rfl⟩
  exact ⟨i_fly hI hn a b, by rw [e.1]; exact hlb, by rw [vs_tb, e.2]; exact htb⟩
theorem li_teach {σ : vb_St} (h : lw_I σ) (hn : vb_n (vs_l σ) ≤ 10) (h3 : vb_sc (vs_l σ) ≤ 3) (s y : Int32) : lw_I (st_teach σ s y) := by
  obtain ⟨hI, hlb, htb⟩ := h
  have e : vs_l (st_teach σ s y) = vs_l σ ∧ vs_p (st_teach σ s y) = vs_p σ := by
    rw [st_teach]
    (repeat' split) <;> exact ⟨rfl, rfl⟩
  exact ⟨i_teach hI hn h3 s y, by rw [e.1]; exact hlb, by rw [vs_tb, e.2]; exact htb⟩
theorem li_play {σ : vb_St} (h : lw_I σ) (hn : vb_n (vs_l σ) ≤ 10) (h3 : vb_sc (vs_l σ) ≤ 3) (k : Int32) : lw_I (st_play σ k) := by
  obtain ⟨hI, hlb, htb⟩ := h
  have e : vs_l (st_play σ k) = vs_l σ ∧ vs_p (st_play σ k) = vs_p σ := by
    rw [st_play]
    (repeat' split) <;> exact ⟨rfl, rfl⟩
  exact ⟨i_play hI hn k, by rw [e.1]; exact hlb, by rw [vs_tb, e.2]; exact htb⟩
theorem li_undo {σ : vb_St} (h : lw_I σ) (hn : vb_n (vs_l σ) ≤ 10) (h3 : vb_sc (vs_l σ) ≤ 3) : lw_I (st_undo σ) := by
  obtain ⟨hI, hlb, htb⟩ := h
  have e : vs_l (st_undo σ) = vs_l σ ∧ vs_p (st_undo σ) = vs_p σ := by
    rw [st_undo]
    (repeat' split) <;> exact ⟨rfl, rfl⟩
  exact ⟨i_undo hI, by rw [e.1]; exact hlb, by rw [vs_tb, e.2]; exact htb⟩
theorem li_see {σ : vb_St} (h : lw_I σ) (hn : vb_n (vs_l σ) ≤ 10) (h3 : vb_sc (vs_l σ) ≤ 3) (i a b : Int32) : lw_I (st_see σ i a b) := by
  obtain ⟨hI, hlb, htb⟩ := h
  have e : vs_l (st_see σ i a b) = vs_l σ ∧ vs_p (st_see σ i a b) = vs_p σ := by
    rw [st_see]
    (repeat' split) <;> exact ⟨rfl, rfl⟩
  exact ⟨i_see hI i a b, by rw [e.1]; exact hlb, by rw [vs_tb, e.2]; exact htb⟩
theorem li_restore {σ : vb_St} (h : lw_I σ) (hn : vb_n (vs_l σ) ≤ 10) (h3 : vb_sc (vs_l σ) ≤ 3) : lw_I (st_restore σ) := by
  obtain ⟨hI, hlb, htb⟩ := h
  have e : vs_l (st_restore σ) = vs_l σ ∧ vs_p (st_restore σ) = vs_p σ := by
    rw [st_restore]
    (repeat' split) <;> exact ⟨rfl, rfl⟩
  exact ⟨i_restore hI, by rw [e.1]; exact hlb, by rw [vs_tb, e.2]; exact htb⟩
theorem li_forget {σ : vb_St} (h : lw_I σ) : lw_I (vs_see σ []) := ⟨h.1.see [], h.2.1, h.2.2⟩
theorem li_image {σ : vb_St} (h : lw_I σ) : lw_I (sp_image σ) := ⟨i_image h.1, h.2.1, h.2.2⟩
