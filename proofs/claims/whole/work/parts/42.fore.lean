/-! FORESIGHT -/
def vb_mvd (s : Int32) (fr to : Nat) : Int32 := (s &&& ~~~ vb_bit fr) ||| vb_bit to
def vb_mx (a b : Int32) : Int32 := if a < b then b else a
def vb_lead (ℓ : vb_L) : Nat → Int32 → Int32 → Int32 → Int32 → Int32 → Int32
  | 0, _, _, of, ff, _ => vb_worth ℓ of - vb_worth ℓ ff
  | k + 1, own, foe, of, ff, ev => (vb_ms ℓ own foe ev).foldl (fun a m => vb_mx a (-(vb_lead ℓ k (foe &&& ~~~ vb_bit (m % 10)) (vb_mvd own (m / 10) (m % 10)) (ff &&& ~~~ vb_bit (m % 10)) (of ||| vb_bit (m % 10)) (ev + vb_i 1)))) (-(vb_lead ℓ k foe own ff of (ev + vb_i 1)))
def vb_fw (ℓ : vb_L) : Nat → Bool → Int32 → Int32 → Int32 → Bool
  | 0, _, _, foe, _ => foe == 0
  | k + 1, true, own, foe, ev => decide (vb_cnt 10 (vb_has foe) ≤ (k + 2) / 2) && ((vb_ms ℓ own foe ev).any (fun m => vb_fw ℓ k false (vb_mvd own (m / 10) (m % 10)) (foe &&& ~~~ vb_bit (m % 10)) (ev + vb_i 1)) || vb_fw ℓ k false own foe (ev + vb_i 1))
  | k + 1, false, own, foe, ev => (foe == 0) || (decide (1 ≤ k) && vb_fw ℓ k true own foe (ev + vb_i 1) && (vb_ms ℓ foe own ev).all (fun m => vb_fw ℓ k true (own &&& ~~~ vb_bit (m % 10)) (vb_mvd foe (m / 10) (m % 10)) (ev + vb_i 1)))
theorem vb_sum_upd {n to : Nat} {f g : Nat → Int32} (ht : to < n) (h : ∀ v, v ≠ to → g v = f v) : vb_sum n g = vb_sum n f + (g to - f to) := by
  induction n with
  | zero => omega
  | succ n ih =>
    simp only [vb_sum]
    by_cases e : to = n
    · subst e
      rw [vb_sum_congr (q := f) (fun v hv => h v (by omega))]
      grind
    · rw [ih (by omega), h n (fun h => e h.symm)]
      grind
theorem vb_neg_sub (a b : Int32) : -(a - b) = b - a := by grind
/-- what a move adds to the lead -/
theorem vb_gain_eq {ℓ : vb_L} {of ff : Int32} {to : Nat} (hn : vb_n ℓ ≤ 10) (ht : to < vb_n ℓ) (hd : ∀ v, vb_has of v = true → vb_has ff v = false) :
    -(vb_worth ℓ (ff &&& ~~~ vb_bit to) - vb_worth ℓ (of ||| vb_bit to)) = (vb_worth ℓ of - vb_worth ℓ ff) + vb_gain ℓ to of ff := by
  have h1 : vb_worth ℓ (of ||| vb_bit to) = vb_worth ℓ of + ((if vb_has (of ||| vb_bit to) to then vb_wo ℓ to else 0) - (if vb_has of to then vb_wo ℓ to else 0)) := by
    refine vb_sum_upd ht (fun v hv => ?_)
    rw [vb_has_or, vb_has_bit (by omega), decide_eq_false hv, Bool.or_false]
  have h2 : vb_worth ℓ (ff &&& ~~~ vb_bit to) = vb_worth ℓ ff + ((if vb_has (ff &&& ~~~ vb_bit to) to then vb_wo ℓ to else 0) - (if vb_has ff to then vb_wo ℓ to else 0)) := by
    refine vb_sum_upd ht (fun v hv => ?_)
    by_cases h32 : v < 32
    · rw [vb_has_and, vb_has_not _ h32, vb_has_bit (by omega), decide_eq_false hv, Bool.not_false, Bool.and_true]
    · rw [vb_has_ge _ (by omega), vb_has_ge _ (by omega)]
  have e1 : vb_has (of ||| vb_bit to) to = true := by rw [vb_has_or, vb_has_bit (by omega), decide_eq_true rfl, Bool.or_true]
  have e2 : vb_has (ff &&& ~~~ vb_bit to) to = false := by rw [vb_has_and, vb_has_not _ (by omega), vb_has_bit (by omega), decide_eq_true rfl, Bool.not_true, Bool.and_false]
  rw [h1, h2, e1, e2]
  simp only [vb_gain, if_true, Bool.false_eq_true, if_false]
  cases ho : vb_has of to with
  | true =>
    rw [hd to ho]
    simp only [if_true, Bool.false_eq_true, if_false]
    grind
  | false =>
    cases hf : vb_has ff to with
    | true => simp only [if_true, Bool.false_eq_true, if_false]; rw [show (vb_i 2 : Int32) = 2 from rfl]; grind
    | false => simp only [if_true, Bool.false_eq_true, if_false]; grind
theorem vb_dis_mv {of ff : Int32} {to : Nat} (ht : to < 32) (hd : ∀ v, vb_has of v = true → vb_has ff v = false) : ∀ v, vb_has (ff &&& ~~~ vb_bit to) v = true → vb_has (of ||| vb_bit to) v = false := by
  intro v h
  have h32 : v < 32 := by
    by_cases e : v < 32
    · exact e
    · rw [vb_has_ge _ (by omega)] at h; cases h
  rw [vb_has_and, vb_has_not _ h32, vb_has_bit ht] at h
  rw [vb_has_or, vb_has_bit ht]
  simp only [Bool.and_eq_true, Bool.not_eq_true', decide_eq_false_iff_not] at h
  cases ho : vb_has of v with
  | true => rw [hd v ho] at h; exact absurd h.1 (by decide)
  | false => simp [h.2]
theorem vb_dis_sw {of ff : Int32} (hd : ∀ v, vb_has of v = true → vb_has ff v = false) : ∀ v, vb_has ff v = true → vb_has of v = false := by
  intro v h
  cases ho : vb_has of v with
  | false => rfl
  | true => rw [hd v ho] at h; cases h
theorem vb_below_mvd {n fr to : Nat} {s : Int32} (h : vb_below n s) (ht : to < n) (hn : n ≤ 32) : vb_below n (vb_mvd s fr to) := by
  intro v hv
  rw [vb_mvd, vb_has_or, vb_has_and, vb_has_bit (by omega)] at hv
  simp only [Bool.or_eq_true, Bool.and_eq_true, decide_eq_true_eq] at hv
  rcases hv with ⟨h1, _⟩ | h1
  · exact h v h1
  · omega
section FORE
variable {G : mm_G} {d : Nat} {I : Nat → Nat → Int32} {P : Nat → Nat → Nat} {J : Nat → Nat → Int64} {S : List (Nat × Nat)} {nc ns : Nat} {μ : mm_M} {ℓ : vb_L} {L : Nat}
theorem vb_qT {own foe ev : Int32} {fr : Nat} (hn : vb_n ℓ ≤ 10) (hf : fr < vb_n ℓ) {c : Bool} (hc : vb_has own fr = c) : ∀ to, to < vb_n ℓ → vb_has (if c then vb_law ℓ own foe fr ev else vb_i 0) to = vb_q ℓ own foe ev (10 * fr + to) := by
  intro to ht
  rw [vb_q_at hn hf ht, hc]
  cases c with
  | true => rfl
  | false => exact vb_has_0 to
theorem c_lead (hL : vb_isL P S L) : ∀ (left d : Nat) (I : Nat → Nat → Int32) (own foe of ff ev : Int32), left ≤ 3 → 5 + left ≤ d → vb_LD ℓ L I → (∀ v, vb_has of v = true → vb_has ff v = false) → mm_C G d 10 [.ref L, .int own, .int foe, .int of, .int ff, .int ev, .int (vb_i left)] (I, P, J, S, nc, ns) (vb_R (some (.int (vb_lead ℓ left own foe of ff ev))) (fun I' => vb_fr (vb_sc2 L) I I') P J S nc ns) := by
  intro left
  induction left with
  | zero =>
    intro d I own foe of ff ev h3 hd dL hdis
    have hn := vl_10 dL
    show mm_W _ _ 10 (mm_blk 10 0) [.ref L, .int own, .int foe, .int of, .int ff, .int ev, .int (vb_i 0), .null, .null, .null, .null, .null, .null, .null, .null] [] _ _
    refine mm_w1 rfl ?_
    refine mm_wv (vb_i 1) rfl (by decide) ?_
    refine mm_nicgt (by omega) (by omega) ?_ ?_
    · intro h3
      exact absurd ‹1 < 0› (by omega)
    · intro h3
      refine mm_w1 rfl ?_
      refine mm_w1 rfl ?_
      refine mm_cvp (vb_cv (vL_S0 hL) rfl rfl rfl rfl) (by decide) (by omega) (c_worthOf hL dL (by omega)) ?_
      refine mm_w1 rfl ?_
      refine mm_w1 rfl ?_
      refine mm_cvp (vb_cv (vL_S0 hL) rfl rfl rfl rfl) (by decide) (by omega) (c_worthOf hL dL (by omega)) ?_
      refine mm_w1 rfl ?_
      refine mm_wgoto ?_
      refine mm_w1 (ls' := [_, _, _, _, _, _, _, _, _, _, _, _, _, _, _]) rfl ?_
      refine mm_w1 rfl ?_
      refine mm_w1 (ls' := [_, _, _, _, _, _, _, _, _, _, _, _, _, _, _]) rfl ?_
      refine mm_wv (vb_i 0) rfl (by decide) ?_
      refine mm_w1 (ls' := [_, _, _, _, _, _, _, _, _, _, _, _, _, _, _]) rfl ?_
      refine mm_w1 rfl ?_
      refine mm_w1 rfl ?_
      refine mm_wgiv _ (vL_S0 hL) (by decide) (by decide) (vl_n dL) ?_
      refine mm_nicge (by omega) (by omega) ?_ ?_
      · intro h54
        refine mm_w1 rfl ?_
        refine mm_wr rfl rfl rfl ?_
        exact ⟨I, vb_fr.rf, rfl⟩
      · intro h54
        refine mm_w1 rfl ?_
        refine mm_nifle (by omega) ?_ ?_
        · intro h59
          refine mm_w1 rfl ?_
          refine mm_wr rfl rfl rfl ?_
          exact ⟨I, vb_fr.rf, rfl⟩
        · intro h59
          exact absurd h59 (by omega)
  | succ k ih =>
    intro d I own foe of ff ev h3 hd dL hdis
    have hn := vl_10 dL
    have inner : ∀ fr, fr < vb_n ℓ → (∀ (I1 : Nat → Nat → Int32) (acc : Int32) (y0 y1 y2 y3 y4 : Value), y0.category = 1 → y1.category = 1 → y2.category = 1 → y3.category = 1 → y4.category = 1 → vb_fr (vb_sc2 L) I I1 → (vb_rs (vb_q ℓ own foe ev) (10 * (fr + 1))).foldl (fun a m => vb_mx a (-(vb_lead ℓ k (foe &&& ~~~ vb_bit (m % 10)) (vb_mvd own (m / 10) (m % 10)) (ff &&& ~~~ vb_bit (m % 10)) (of ||| vb_bit (m % 10)) (ev + vb_i 1)))) acc = (vb_lead ℓ (k + 1) own foe of ff ev) → mm_W G d 10 (mm_blk 10 48) [.ref L, .int own, .int foe, .int of, .int ff, .int ev, .int (vb_i (k + 1)), .int acc, .int (-(vb_lead ℓ k foe own ff of (ev + vb_i 1))), .int (vb_i (fr + 1)), y0, y1, y2, y3, y4] [] (I1, P, J, S, nc, ns) (vb_R (some (.int (vb_lead ℓ (k + 1) own foe of ff ev))) (fun I' => vb_fr (vb_sc2 L) I I') P J S nc ns)) → ∀ tg : Int32, (∀ to, to < vb_n ℓ → vb_has tg to = vb_q ℓ own foe ev (10 * fr + to)) → ∀ to, to ≤ vb_n ℓ → ∀ (I1 : Nat → Nat → Int32) (acc : Int32) (y2 y3 y4 : Value), y2.category = 1 → y3.category = 1 → y4.category = 1 → vb_fr (vb_sc2 L) I I1 → (vb_rs (vb_q ℓ own foe ev) (10 * fr + to)).foldl (fun a m => vb_mx a (-(vb_lead ℓ k (foe &&& ~~~ vb_bit (m % 10)) (vb_mvd own (m / 10) (m % 10)) (ff &&& ~~~ vb_bit (m % 10)) (of ||| vb_bit (m % 10)) (ev + vb_i 1)))) acc = (vb_lead ℓ (k + 1) own foe of ff ev) → mm_W G d 10 (mm_blk 10 90) [.ref L, .int own, .int foe, .int of, .int ff, .int ev, .int (vb_i (k + 1)), .int acc, .int (-(vb_lead ℓ k foe own ff of (ev + vb_i 1))), .int (vb_i fr), .int tg, .int (vb_i to), y2, y3, y4] [] (I1, P, J, S, nc, ns) (vb_R (some (.int (vb_lead ℓ (k + 1) own foe of ff ev))) (fun I' => vb_fr (vb_sc2 L) I I') P J S nc ns) := by
      intro fr hfr ihO tg htg
      refine vb_down (vb_n ℓ) ?_
      intro to hto ihI I1 acc y2 y3 y4 hy2 hy3 hy4 hf1 heq
      have dL1 := dL.fr (vb_s2 hf1)
      refine mm_w1 rfl ?_
      refine mm_w1 rfl ?_
      refine mm_wgiv _ (vL_S0 hL) (by decide) (by decide) (vl_n dL1) ?_
      refine mm_nicge (by omega) (by omega) ?_ ?_
      · intro h96
        refine mm_nincL (ls' := [_, _, _, _, _, _, _, _, _, _, _, _, _, _, _]) 1 rfl (by decide) rfl ?_
        refine mm_wgoto ?_
        have e : to = vb_n ℓ := by omega
        subst e
        rw [vb_rs_row hn] at heq
        exact ihO I1 acc _ _ _ _ _ rfl rfl hy2 hy3 hy4 hf1 heq
      · intro h96
        refine mm_w1 rfl ?_
        refine mm_w1 rfl ?_
        refine mm_csp rfl (by decide) (by omega) (c_has (by omega)) ?_
        refine mm_bifeq ?_ ?_
        · intro h106
          refine mm_nincL (ls' := [_, _, _, _, _, _, _, _, _, _, _, _, _, _, _]) 1 rfl (by decide) rfl ?_
          refine mm_wgoto ?_
          rw [vb_rs_cons (by omega), ← htg to (by omega), h106, if_neg (by decide)] at heq
          exact ihI (by omega) I1 acc _ _ _ hy2 hy3 hy4 hf1 heq
        · intro h106
          have hst : (vb_rs (vb_q ℓ own foe ev) (10 * fr + to)) = (10 * fr + to) :: vb_rs (vb_q ℓ own foe ev) (10 * fr + to + 1) := by rw [vb_rs_cons (by omega), ← htg to (by omega), h106, if_pos rfl]
          rw [hst, List.foldl_cons, show (10 * fr + to) % 10 = to by omega, show (10 * fr + to) / 10 = fr by omega] at heq
          refine mm_wv (vb_i 1) rfl (by decide) ?_
          refine mm_w1 rfl ?_
          refine mm_nbit (by omega) ?_
          refine mm_w1 (ls' := [_, _, _, _, _, _, _, _, _, _, _, _, _, _, _]) rfl ?_
          refine mm_w1 rfl ?_
          refine mm_wv (vb_i 1) rfl (by decide) ?_
          refine mm_w1 rfl ?_
          refine mm_nbit (by omega) ?_
          refine mm_wv (-1) rfl (by decide) ?_
          refine mm_nnot ?_
          refine mm_w1 rfl ?_
          refine mm_w1 rfl ?_
          refine mm_w1 rfl ?_
          refine mm_w1 (ls' := [_, _, _, _, _, _, _, _, _, _, _, _, _, _, _]) rfl ?_
          refine mm_w1 rfl ?_
          refine mm_wv (vb_i 1) rfl (by decide) ?_
          refine mm_nicne (by omega) (by omega) ?_ ?_
          · intro h131
            refine mm_w1 rfl ?_
            refine mm_w1 rfl ?_
            refine mm_w1 rfl ?_
            refine mm_wv (-1) rfl (by decide) ?_
            refine mm_nnot ?_
            refine mm_w1 rfl ?_
            refine mm_w1 rfl ?_
            refine mm_w1 rfl ?_
            refine mm_w1 rfl ?_
            refine mm_wv (-1) rfl (by decide) ?_
            refine mm_nnot ?_
            refine mm_w1 rfl ?_
            refine mm_w1 rfl ?_
            refine mm_w1 rfl ?_
            refine mm_w1 rfl ?_
            refine mm_w1 rfl ?_
            refine mm_wv (vb_i 1) rfl (by decide) ?_
            refine mm_w1 rfl ?_
            refine mm_w1 rfl ?_
            refine mm_wv (vb_i 1) rfl (by decide) ?_
            refine mm_nsub (by omega) ?_
            rw [Nat.add_sub_cancel]
            refine mm_csi rfl (by decide) (by omega) (ih (d - 1) I1 (foe &&& ~~~ vb_bit to) (vb_mvd own fr to) (ff &&& ~~~ vb_bit to) (of ||| vb_bit to) (ev + vb_i 1) (by omega) (by omega) dL1 (vb_dis_mv (by omega) hdis)) ?_
            intro I2 hf2
            have hf12 := hf1.tr hf2 
            refine mm_w1 rfl ?_
            refine mm_w1 (ls' := [_, _, _, _, _, _, _, _, _, _, _, _, _, _, _]) rfl ?_
            refine mm_w1 rfl ?_
            refine mm_w1 rfl ?_
            refine mm_w1 rfl ?_
            refine mm_w1 (ls' := [_, _, _, _, _, _, _, _, _, _, _, _, _, _, _]) rfl ?_
            refine mm_nincL (ls' := [_, _, _, _, _, _, _, _, _, _, _, _, _, _, _]) 1 rfl (by decide) rfl ?_
            refine mm_wgoto ?_
            first
              | exact ihI (by omega) I2 _ _ _ _ rfl rfl rfl hf12 heq
              | exact ihI (by omega) I1 _ _ _ _ rfl rfl rfl hf1 heq
          · intro h131
            refine mm_w1 rfl ?_
            refine mm_w1 rfl ?_
            refine mm_w1 rfl ?_
            refine mm_w1 rfl ?_
            refine mm_w1 rfl ?_
            refine mm_cvp (vb_cv (vL_S0 hL) rfl rfl rfl rfl) (by decide) (by omega) (c_gain hL dL1 (by omega) (by omega)) ?_
            have ek : k = 0 := by omega
            subst ek
            refine mm_wv _ rfl (show _ = _ from (by simp only [vb_lead]; rw [vb_neg_sub, ← vb_gain_eq hn (by omega) hdis])) ?_ 
            refine mm_wgoto ?_
            refine mm_w1 (ls' := [_, _, _, _, _, _, _, _, _, _, _, _, _, _, _]) rfl ?_
            refine mm_w1 rfl ?_
            refine mm_w1 rfl ?_
            refine mm_w1 rfl ?_
            refine mm_w1 (ls' := [_, _, _, _, _, _, _, _, _, _, _, _, _, _, _]) rfl ?_
            refine mm_nincL (ls' := [_, _, _, _, _, _, _, _, _, _, _, _, _, _, _]) 1 rfl (by decide) rfl ?_
            refine mm_wgoto ?_
            first
              | exact ihI (by omega) I2 _ _ _ _ rfl rfl rfl hf12 heq
              | exact ihI (by omega) I1 _ _ _ _ rfl rfl rfl hf1 heq  
    have outer := vb_down (p := fun fr => ∀ (I1 : Nat → Nat → Int32) (acc : Int32) (y0 y1 y2 y3 y4 : Value), y0.category = 1 → y1.category = 1 → y2.category = 1 → y3.category = 1 → y4.category = 1 → vb_fr (vb_sc2 L) I I1 → (vb_rs (vb_q ℓ own foe ev) (10 * fr)).foldl (fun a m => vb_mx a (-(vb_lead ℓ k (foe &&& ~~~ vb_bit (m % 10)) (vb_mvd own (m / 10) (m % 10)) (ff &&& ~~~ vb_bit (m % 10)) (of ||| vb_bit (m % 10)) (ev + vb_i 1)))) acc = (vb_lead ℓ (k + 1) own foe of ff ev) → mm_W G d 10 (mm_blk 10 48) [.ref L, .int own, .int foe, .int of, .int ff, .int ev, .int (vb_i (k + 1)), .int acc, .int (-(vb_lead ℓ k foe own ff of (ev + vb_i 1))), .int (vb_i fr), y0, y1, y2, y3, y4] [] (I1, P, J, S, nc, ns) (vb_R (some (.int (vb_lead ℓ (k + 1) own foe of ff ev))) (fun I' => vb_fr (vb_sc2 L) I I') P J S nc ns)) (vb_n ℓ) (by
      intro fr hfr ihO I1 acc y0 y1 y2 y3 y4 hy0 hy1 hy2 hy3 hy4 hf1 heq
      have dL1 := dL.fr (vb_s2 hf1)
      refine mm_w1 rfl ?_
      refine mm_w1 rfl ?_
      refine mm_wgiv _ (vL_S0 hL) (by decide) (by decide) (vl_n dL1) ?_
      refine mm_nicge (by omega) (by omega) ?_ ?_
      · intro h54
        refine mm_w1 rfl ?_
        refine mm_wr rfl rfl rfl ?_
        have e : fr = vb_n ℓ := by omega
        subst e
        rw [vb_rs_last hn] at heq
        refine ⟨I1, hf1, ?_⟩
        rw [← heq]; rfl
      · intro h54
        refine mm_w1 rfl ?_
        refine mm_nifle (by omega) ?_ ?_
        · intro h59
          exact absurd h59 (by omega)
        · intro h59
          refine mm_w1 rfl ?_
          refine mm_w1 rfl ?_
          refine mm_csp rfl (by decide) (by omega) (c_has (by omega)) ?_
          refine mm_bifeq ?_ ?_
          · intro h68
            refine mm_wv (vb_i 0) rfl (by decide) ?_
            refine mm_w1 (ls' := [_, _, _, _, _, _, _, _, _, _, _, _, _, _, _]) rfl ?_
            refine mm_wv (vb_i 0) rfl (by decide) ?_
            refine mm_w1 (ls' := [_, _, _, _, _, _, _, _, _, _, _, _, _, _, _]) rfl ?_
            have hq := vb_qT (foe := foe) (ev := ev) hn (by omega) h68
            first
              | exact inner fr (by omega) (fun J1 ac z0 z1 z2 z3 z4 g0 g1 g2 g3 g4 => ihO (by omega) J1 ac z0 z1 z2 z3 z4 g0 g1 g2 g3 g4) _ hq 0 (by omega) I2 acc _ _ _ hy2 hy3 hy4 hf12 heq
              | exact inner fr (by omega) (fun J1 ac z0 z1 z2 z3 z4 g0 g1 g2 g3 g4 => ihO (by omega) J1 ac z0 z1 z2 z3 z4 g0 g1 g2 g3 g4) _ hq 0 (by omega) I1 acc _ _ _ hy2 hy3 hy4 hf1 heq
          · intro h68
            refine mm_w1 rfl ?_
            refine mm_w1 rfl ?_
            refine mm_w1 rfl ?_
            refine mm_w1 rfl ?_
            refine mm_w1 rfl ?_
            refine mm_cvi (vb_cv (vL_S0 hL) rfl rfl rfl rfl) (by decide) (by omega) (c_lawful (ℓ := ℓ) hL dL1 (by omega) (by omega)) ?_
            intro I2 hf2
            have hf12 := hf1.tr hf2 
            refine mm_wgoto ?_
            refine mm_w1 (ls' := [_, _, _, _, _, _, _, _, _, _, _, _, _, _, _]) rfl ?_
            refine mm_wv (vb_i 0) rfl (by decide) ?_
            refine mm_w1 (ls' := [_, _, _, _, _, _, _, _, _, _, _, _, _, _, _]) rfl ?_
            have hq := vb_qT (foe := foe) (ev := ev) hn (by omega) h68
            first
              | exact inner fr (by omega) (fun J1 ac z0 z1 z2 z3 z4 g0 g1 g2 g3 g4 => ihO (by omega) J1 ac z0 z1 z2 z3 z4 g0 g1 g2 g3 g4) _ hq 0 (by omega) I2 acc _ _ _ hy2 hy3 hy4 hf12 heq
              | exact inner fr (by omega) (fun J1 ac z0 z1 z2 z3 z4 g0 g1 g2 g3 g4 => ihO (by omega) J1 ac z0 z1 z2 z3 z4 g0 g1 g2 g3 g4) _ hq 0 (by omega) I1 acc _ _ _ hy2 hy3 hy4 hf1 heq
      )
    show mm_W _ _ 10 (mm_blk 10 0) [.ref L, .int own, .int foe, .int of, .int ff, .int ev, .int (vb_i (k + 1)), .null, .null, .null, .null, .null, .null, .null, .null] [] _ _
    refine mm_w1 rfl ?_
    refine mm_wv (vb_i 1) rfl (by decide) ?_
    refine mm_nicgt (by omega) (by omega) ?_ ?_
    · intro h3
      refine mm_w1 rfl ?_
      refine mm_w1 rfl ?_
      refine mm_w1 rfl ?_
      refine mm_w1 rfl ?_
      refine mm_w1 rfl ?_
      refine mm_w1 rfl ?_
      refine mm_wv (vb_i 1) rfl (by decide) ?_
      refine mm_w1 rfl ?_
      refine mm_w1 rfl ?_
      refine mm_wv (vb_i 1) rfl (by decide) ?_
      refine mm_nsub (by omega) ?_
      rw [Nat.add_sub_cancel]
      refine mm_csi rfl (by decide) (by omega) (ih (d - 1) I foe own ff of (ev + vb_i 1) (by omega) (by omega) dL (vb_dis_sw hdis)) ?_
      intro I1 hf1 
      refine mm_w1 rfl ?_
      refine mm_w1 (ls' := [_, _, _, _, _, _, _, _, _, _, _, _, _, _, _]) rfl ?_
      refine mm_w1 rfl ?_
      refine mm_w1 (ls' := [_, _, _, _, _, _, _, _, _, _, _, _, _, _, _]) rfl ?_
      refine mm_wv (vb_i 0) rfl (by decide) ?_
      refine mm_w1 (ls' := [_, _, _, _, _, _, _, _, _, _, _, _, _, _, _]) rfl ?_
      first
        | exact outer 0 (by omega) I1 _ _ _ _ _ _ rfl rfl rfl rfl rfl hf1 rfl
        | exact outer 0 (by omega) I _ _ _ _ _ _ rfl rfl rfl rfl rfl vb_fr.rf rfl
    · intro h3
      refine mm_w1 rfl ?_
      refine mm_w1 rfl ?_
      refine mm_cvp (vb_cv (vL_S0 hL) rfl rfl rfl rfl) (by decide) (by omega) (c_worthOf hL dL (by omega)) ?_
      refine mm_w1 rfl ?_
      refine mm_w1 rfl ?_
      refine mm_cvp (vb_cv (vL_S0 hL) rfl rfl rfl rfl) (by decide) (by omega) (c_worthOf hL dL (by omega)) ?_
      have ek : k = 0 := by omega
      subst ek
      refine mm_wv (-(vb_lead ℓ 0 foe own ff of (ev + vb_i 1))) rfl (by simp only [vb_lead]; rw [vb_neg_sub]) ?_ 
      refine mm_wgoto ?_
      refine mm_w1 (ls' := [_, _, _, _, _, _, _, _, _, _, _, _, _, _, _]) rfl ?_
      refine mm_w1 rfl ?_
      refine mm_w1 (ls' := [_, _, _, _, _, _, _, _, _, _, _, _, _, _, _]) rfl ?_
      refine mm_wv (vb_i 0) rfl (by decide) ?_
      refine mm_w1 (ls' := [_, _, _, _, _, _, _, _, _, _, _, _, _, _, _]) rfl ?_
      first
        | exact outer 0 (by omega) I1 _ _ _ _ _ _ rfl rfl rfl rfl rfl hf1 rfl
        | exact outer 0 (by omega) I _ _ _ _ _ _ rfl rfl rfl rfl rfl vb_fr.rf rfl
end FORE
