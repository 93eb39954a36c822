theorem vg_add1 {g : Int32} {u : Nat} (hu : u < 10) (h : vb_has g u = false) : vb_cnt 10 (vb_has (g ||| vb_bit u)) = vb_cnt 10 (vb_has g) + 1 := by
  have h1 := vb_cnt_more (n := 10) (p := vb_has g) (q := vb_has (g ||| vb_bit u)) (fun v _ hv => vp_up (by omega) hv) hu h (vp_at (by omega))
  have h2 := (vb_cnt_le1 (n := 10) (c := u) (p := vb_has (g ||| vb_bit u)) (q := vb_has g) (fun v _ hne hv => (vp_bk (by omega) hv).resolve_right hne)).1
  omega
theorem vg_lw_cnt {F : Int32} (hF : vb_below 10 F) : ∀ k, vb_cnt 10 (vb_has (vg_lw F k)) = min k (vb_cnt 10 (vb_has F)) := by
  intro k
  induction k with
  | zero =>
    rw [Nat.zero_min]
    exact vb_cnt_no 10 (fun v _ => by rw [show vg_lw F 0 = 0 from rfl, vb_has_0])
  | succ k ih =>
    have hs := vg_lw_seg hF k
    rcases vg_lw_s hF k hs with ⟨h, h2⟩ | ⟨u, h1, h2, h3, h4, h5⟩
    · rw [h, h2]
      rw [h2] at ih
      omega
    · rw [h5, vg_add1 h1 h3]
      have h6 := vb_cnt_more (n := 10) (p := vb_has (vg_lw F k)) (q := vb_has F) (fun v _ hv => hs.1 v hv) h1 h3 h2
      omega
