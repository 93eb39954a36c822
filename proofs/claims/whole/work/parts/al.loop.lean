section LWM
variable {G : mm_G} {d : Nat} {I : Nat → Nat → Int32} {P : Nat → Nat → Nat} {J : Nat → Nat → Int64} {S : List (Nat × Nat)} {nc ns : Nat} {σ τ : vb_St}
theorem ll_small : ∀ g, g < 6 → ∀ i, i < 6 → vb_i g - vb_i 6 < vb_i i := by decide
def lw_Qr (C D : Nat) : mm_R → Prop := fun r => ∃ μ' : mm_M, r = (.inl (some (.int (vb_i 1))), μ') ∧ μ'.2.2.2.2.1 ≤ C ∧ μ'.2.2.2.2.2 ≤ D
theorem ll_loop {C D : Nat} (hd : 85 ≤ d) (hG : G.1 ≤ 3072) : ∀ (m i : Nat) (σ : vb_St) (I : Nat → Nat → Int32) (P : Nat → Nat → Nat) (J : Nat → Nat → Int64) (nc ns : Nat) (v5 v6 : Value), G.1 ≤ i + m → i ≤ G.1 → nc + (G.1 - i) ≤ C → ns + (G.1 - i) ≤ D → lw_V σ P S I → lw_N σ P S I → lw_C P S → lw_I σ → mm_W G d 279 (mm_blk 279 23) [.ref mm_SC, .ref 0, .ref 60, .ref 86, .int (vb_i i), v5, v6] [] (I, P, J, S, nc, ns) (lw_Qr C D) := by
  intro m
  induction m using Nat.strongRecOn with
  | ind m ih =>
    intro i σ I P J nc ns v5 v6 hm hi hc hs hV hN hC hI
    have kx : mm_W G d 279 (mm_blk 279 2383) [.ref mm_SC, .ref 0, .ref 60, .ref 86, .int (vb_i i), v5, v6] [] (I, P, J, S, nc, ns) (lw_Qr C D) := by
      refine mm_wv (vb_i 1) rfl (by decide) ?_
      refine mm_wr rfl rfl rfl ?_
      exact ⟨_, rfl, (by show nc ≤ C; omega), (by show ns ≤ D; omega)⟩
    refine mm_w1 rfl ?_
    refine mm_w1 rfl ?_
    refine mm_wv (vb_i G.1) rfl rfl ?_
    refine mm_wv (vb_i 6) rfl (by decide) ?_
    by_cases h6 : 6 ≤ G.1
    · refine mm_nsub h6 ?_
      refine mm_nicgt (by omega) (by omega) (fun _ => kx) (fun hlt => ?_)
      refine mm_w1 rfl ?_
      refine mm_w1 rfl ?_
      refine mm_wsa (by omega) (by omega) ?_
      refine mm_wv (vb_i 63) rfl (by decide) ?_
      refine mm_w1 rfl ?_
      have K : lw_K G d i S nc ns (lw_Qr C D) := by
        intro σ' I' P' J' nc' ns' v5 v6 hnc hns hV' hN' hC' hI'
        refine mm_nincL (ls' := [_, _, _, _, _, _, _]) 6 rfl (by decide) rfl ?_
        refine mm_wgoto ?_
        exact ih (m - 6) (by omega) (i + 6) σ' I' P' J' nc' ns' v5 v6 (by omega) (by omega) (by omega) (by omega) hV' hN' hC' hI'
      generalize G.2 i &&& vb_i 63 = v
      cases hv : vb_idx 42 v with
      | none =>
        refine mm_wts 2377 (mm_tgt_d (n := 42) (by decide) hv rfl) ?_
        exact K σ I P J nc ns v5 v6 (by omega) (by omega) hV hN hC hI
      | some w =>
        obtain ⟨lw, rfl⟩ := vb_idx_some (by decide) hv
        have hk : w = 0 ∨ w = 1 ∨ w = 2 ∨ w = 3 ∨ w = 4 ∨ w = 5 ∨ w = 6 ∨ w = 7 ∨ w = 8 ∨ w = 9 ∨ w = 10 ∨ w = 11 ∨ w = 12 ∨ w = 13 ∨ w = 14 ∨ w = 15 ∨ w = 16 ∨ w = 17 ∨ w = 18 ∨ w = 19 ∨ w = 20 ∨ w = 21 ∨ w = 22 ∨ w = 23 ∨ w = 24 ∨ w = 25 ∨ w = 26 ∨ w = 27 ∨ w = 28 ∨ w = 29 ∨ w = 30 ∨ w = 31 ∨ w = 32 ∨ w = 33 ∨ w = 34 ∨ w = 35 ∨ w = 36 ∨ w = 37 ∨ w = 38 ∨ w = 39 ∨ w = 40 ∨ w = 41 := by omega
        rcases hk with rfl | rfl | rfl | rfl | rfl | rfl | rfl | rfl | rfl | rfl | rfl | rfl | rfl | rfl | rfl | rfl | rfl | rfl | rfl | rfl | rfl | rfl | rfl | rfl | rfl | rfl | rfl | rfl | rfl | rfl | rfl | rfl | rfl | rfl | rfl | rfl | rfl | rfl | rfl | rfl | rfl | rfl
        · refine mm_wts 224 (by decide +kernel) ?_
          exact ll_feed hV hN hC hI hd hG (by omega) K
        · refine mm_wts 297 (by decide +kernel) ?_
          exact ll_board hV hN hC hI hd hG (by omega) K
        · refine mm_wts 353 (by decide +kernel) ?_
          exact ll_fault hV hN hC hI hd hG (by omega) K
        · refine mm_wts 366 (by decide +kernel) ?_
          exact ll_count hV hN hC hI hd hG (by omega) K
        · refine mm_wts 422 (by decide +kernel) ?_
          exact ll_village hV hN hC hI hd hG (by omega) K
        · refine mm_wts 490 (by decide +kernel) ?_
          exact ll_side hV hN hC hI hd hG (by omega) K
        · refine mm_wts 558 (by decide +kernel) ?_
          exact ll_road hV hN hC hI hd hG (by omega) K
        · refine mm_wts 633 (by decide +kernel) ?_
          exact ll_lawful hV hN hC hI hd hG (by omega) K
        · refine mm_wts 708 (by decide +kernel) ?_
          exact ll_move hV hN hC hI hd hG (by omega) K
        · refine mm_wts 776 (by decide +kernel) ?_
          exact ll_pass hV hN hC hI hd hG (by omega) K
        · refine mm_wts 789 (by decide +kernel) ?_
          exact ll_fly hV hN hC hI hd hG (by omega) K
        · refine mm_wts 864 (by decide +kernel) ?_
          exact ll_teach hV hN hC hI hd hG (by omega) K
        · refine mm_wts 932 (by decide +kernel) ?_
          exact ll_play hV hN hC hI hd hG (by omega) K
        · refine mm_wts 957 (by decide +kernel) ?_
          exact ll_undo hV hN hC hI hd hG (by omega) K
        · refine mm_wts 970 (by decide +kernel) ?_
          exact ll_hangs hV hN hC hI hd hG (by omega) K
        · refine mm_wts 1026 (by decide +kernel) ?_
          exact ll_look hV hN hC hI hd hG (by omega) K
        · refine mm_wts 1094 (by decide +kernel) ?_
          exact ll_win hV hN hC hI hd hG (by omega) K
        · refine mm_wts 1107 (by decide +kernel) ?_
          exact ll_journey hV hN hC hI hd hG (by omega) K
        · refine mm_wts 1175 (by decide +kernel) ?_
          exact ll_played hV hN hC hI hd hG (by omega) K
        · refine mm_wts 1231 (by decide +kernel) ?_
          exact ll_turned hV hN hC hI hd hG (by omega) K
        · refine mm_wts 1287 (by decide +kernel) ?_
          exact ll_treasury hV hN hC hI hd hG (by omega) K
        · refine mm_wts 1355 (by decide +kernel) ?_
          exact ll_gift hV hN hC hI hd hG (by omega) K
        · refine mm_wts 1423 (by decide +kernel) ?_
          exact ll_plant hV hN hC hI hd hG (by omega) K
        · refine mm_wts 1491 (by decide +kernel) ?_
          exact ll_see hV hN hC hI hd hG (by omega) K
        · refine mm_wts 1571 (by decide +kernel) ?_
          exact ll_forget hV hN hC hI hd hG (by omega) K
        · refine mm_wts 1582 (by decide +kernel) ?_
          exact ll_styles hV hN hC hI hd hG (by omega) K
        · refine mm_wts 1638 (by decide +kernel) ?_
          exact ll_next hV hN hC hI hd hG (by omega) K
        · refine mm_wts 1694 (by decide +kernel) ?_
          exact ll_treaty hV hN hC hI hd hG (by omega) K
        · refine mm_wts 1707 (by decide +kernel) ?_
          exact ll_game hV hN hC hI hd hG (by omega) K
        · refine mm_wts 1787 (by decide +kernel) ?_
          exact ll_years hV hN hC hI hd hG (by omega) K
        · refine mm_wts 1867 (by decide +kernel) ?_
          exact ll_owes hV hN hC hI hd hG (by omega) K
        · refine mm_wts 1923 (by decide +kernel) ?_
          exact ll_front hV hN hC hI hd hG (by omega) K
        · refine mm_wts 1936 (by decide +kernel) ?_
          exact ll_parts hV hN hC hI hd hG (by omega) K
        · refine mm_wts 1992 (by decide +kernel) ?_
          exact ll_safe hV hN hC hI hd hG (by omega) K
        · refine mm_wts 2048 (by decide +kernel) ?_
          exact ll_reach hV hN hC hI hd hG (by omega) K
        · refine mm_wts 2104 (by decide +kernel) ?_
          exact ll_guard hV hN hC hI hd hG (by omega) K
        · refine mm_wts 2160 (by decide +kernel) ?_
          exact ll_key hV hN hC hI hd hG (by omega) K
        · refine mm_wts 2216 (by decide +kernel) ?_
          exact ll_fork hV hN hC hI hd hG (by omega) K
        · refine mm_wts 2229 (by decide +kernel) ?_
          exact ll_regret hV hN hC hI hd hG (by omega) K
        · refine mm_wts 2297 (by decide +kernel) ?_
          exact ll_whose hV hN hC hI hd hG (by omega) K
        · refine mm_wts 2353 (by decide +kernel) ?_
          exact ll_image hV hN hC hI hd hG (by omega) K
        · refine mm_wts 2364 (by decide +kernel) ?_
          exact ll_restore hV hN hC hI hd hG (by omega) K
    · refine mm_w1 rfl ?_
      refine mm_wicgt (fun _ => kx) (fun h => absurd (ll_small G.1 (by omega) i (by omega)) h)
end LWM
