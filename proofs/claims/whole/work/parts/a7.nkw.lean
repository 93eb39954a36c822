section NKW
variable {G : mm_G} {d : Nat} {I : Nat → Nat → Int32} {P : Nat → Nat → Nat} {J : Nat → Nat → Int64} {S : List (Nat × Nat)} {nc ns : Nat} {μ : mm_M} {b : Nat → Int32} {n : Nat}
theorem m_sp0 : mm_Call G d 147 [.int (vb_i 104), .int (vb_i 101), .int (vb_i 108), .int (vb_i 112), .int (vb_i 115), .int (vb_i 0), .int (vb_i 0)] μ (.inl (some (.long (nt_wl (tx_wl.getD 0 [])))), μ) := by
  refine mm_C.call ?_
  show mm_W _ _ 147 (mm_blk 147 0) [.int (vb_i 104), .int (vb_i 101), .int (vb_i 108), .int (vb_i 112), .int (vb_i 115), .int (vb_i 0), .int (vb_i 0), .null, .null] [] _ _
  refine mm_w1 rfl ?_
  refine mm_w1 rfl ?_
  refine mm_w1 rfl ?_
  refine mm_w1 rfl ?_
  refine mm_wv (vb_i 5) rfl (by decide) ?_
  refine mm_w1 rfl ?_
  refine mm_w1 rfl ?_
  refine mm_wv (vb_i 96) rfl (by decide) ?_
  refine mm_nsub (by omega) ?_
  refine mm_w1 rfl ?_
  refine mm_w1 rfl ?_
  refine mm_w1 (ls' := [_, _, _, _, _, _, _, _, _]) rfl ?_
  refine mm_w1 rfl ?_
  refine mm_nifeq (by decide) (fun h => absurd h (by decide)) (fun _ => ?_)
  refine mm_w1 rfl ?_
  refine mm_wv (vb_i 5) rfl (by decide) ?_
  refine mm_w1 rfl ?_
  refine mm_w1 rfl ?_
  refine mm_wv (vb_i 96) rfl (by decide) ?_
  refine mm_nsub (by omega) ?_
  refine mm_w1 rfl ?_
  refine mm_w1 rfl ?_
  refine mm_w1 (ls' := [_, _, _, _, _, _, _, _, _]) rfl ?_
  refine mm_w1 rfl ?_
  refine mm_nifeq (by decide) (fun h => absurd h (by decide)) (fun _ => ?_)
  refine mm_w1 rfl ?_
  refine mm_wv (vb_i 5) rfl (by decide) ?_
  refine mm_w1 rfl ?_
  refine mm_w1 rfl ?_
  refine mm_wv (vb_i 96) rfl (by decide) ?_
  refine mm_nsub (by omega) ?_
  refine mm_w1 rfl ?_
  refine mm_w1 rfl ?_
  refine mm_w1 (ls' := [_, _, _, _, _, _, _, _, _]) rfl ?_
  refine mm_w1 rfl ?_
  refine mm_nifeq (by decide) (fun h => absurd h (by decide)) (fun _ => ?_)
  refine mm_w1 rfl ?_
  refine mm_wv (vb_i 5) rfl (by decide) ?_
  refine mm_w1 rfl ?_
  refine mm_w1 rfl ?_
  refine mm_wv (vb_i 96) rfl (by decide) ?_
  refine mm_nsub (by omega) ?_
  refine mm_w1 rfl ?_
  refine mm_w1 rfl ?_
  refine mm_w1 (ls' := [_, _, _, _, _, _, _, _, _]) rfl ?_
  refine mm_w1 rfl ?_
  refine mm_nifeq (by decide) (fun _ => ?_) (fun h => absurd rfl h)
  refine mm_w1 rfl ?_
  refine mm_nifeq (by decide) (fun _ => ?_) (fun h => absurd rfl h)
  refine mm_w1 rfl ?_
  refine mm_wr rfl rfl rfl ?_
  exact congrArg (fun z : Int64 => ((Sum.inl (some (Value.long z)), μ) : mm_R)) (by decide)
theorem m_sp1 : mm_Call G d 147 [.int (vb_i 103), .int (vb_i 117), .int (vb_i 97), .int (vb_i 114), .int (vb_i 100), .int (vb_i 115), .int (vb_i 0)] μ (.inl (some (.long (nt_wl (tx_wl.getD 1 [])))), μ) := by
  refine mm_C.call ?_
  show mm_W _ _ 147 (mm_blk 147 0) [.int (vb_i 103), .int (vb_i 117), .int (vb_i 97), .int (vb_i 114), .int (vb_i 100), .int (vb_i 115), .int (vb_i 0), .null, .null] [] _ _
  refine mm_w1 rfl ?_
  refine mm_w1 rfl ?_
  refine mm_w1 rfl ?_
  refine mm_w1 rfl ?_
  refine mm_wv (vb_i 5) rfl (by decide) ?_
  refine mm_w1 rfl ?_
  refine mm_w1 rfl ?_
  refine mm_wv (vb_i 96) rfl (by decide) ?_
  refine mm_nsub (by omega) ?_
  refine mm_w1 rfl ?_
  refine mm_w1 rfl ?_
  refine mm_w1 (ls' := [_, _, _, _, _, _, _, _, _]) rfl ?_
  refine mm_w1 rfl ?_
  refine mm_nifeq (by decide) (fun h => absurd h (by decide)) (fun _ => ?_)
  refine mm_w1 rfl ?_
  refine mm_wv (vb_i 5) rfl (by decide) ?_
  refine mm_w1 rfl ?_
  refine mm_w1 rfl ?_
  refine mm_wv (vb_i 96) rfl (by decide) ?_
  refine mm_nsub (by omega) ?_
  refine mm_w1 rfl ?_
  refine mm_w1 rfl ?_
  refine mm_w1 (ls' := [_, _, _, _, _, _, _, _, _]) rfl ?_
  refine mm_w1 rfl ?_
  refine mm_nifeq (by decide) (fun h => absurd h (by decide)) (fun _ => ?_)
  refine mm_w1 rfl ?_
  refine mm_wv (vb_i 5) rfl (by decide) ?_
  refine mm_w1 rfl ?_
  refine mm_w1 rfl ?_
  refine mm_wv (vb_i 96) rfl (by decide) ?_
  refine mm_nsub (by omega) ?_
  refine mm_w1 rfl ?_
  refine mm_w1 rfl ?_
  refine mm_w1 (ls' := [_, _, _, _, _, _, _, _, _]) rfl ?_
  refine mm_w1 rfl ?_
  refine mm_nifeq (by decide) (fun h => absurd h (by decide)) (fun _ => ?_)
  refine mm_w1 rfl ?_
  refine mm_wv (vb_i 5) rfl (by decide) ?_
  refine mm_w1 rfl ?_
  refine mm_w1 rfl ?_
  refine mm_wv (vb_i 96) rfl (by decide) ?_
  refine mm_nsub (by omega) ?_
  refine mm_w1 rfl ?_
  refine mm_w1 rfl ?_
  refine mm_w1 (ls' := [_, _, _, _, _, _, _, _, _]) rfl ?_
  refine mm_w1 rfl ?_
  refine mm_nifeq (by decide) (fun h => absurd h (by decide)) (fun _ => ?_)
  refine mm_w1 rfl ?_
  refine mm_wv (vb_i 5) rfl (by decide) ?_
  refine mm_w1 rfl ?_
  refine mm_w1 rfl ?_
  refine mm_wv (vb_i 96) rfl (by decide) ?_
  refine mm_nsub (by omega) ?_
  refine mm_w1 rfl ?_
  refine mm_w1 rfl ?_
  refine mm_w1 (ls' := [_, _, _, _, _, _, _, _, _]) rfl ?_
  refine mm_w1 rfl ?_
  refine mm_nifeq (by decide) (fun _ => ?_) (fun h => absurd rfl h)
  refine mm_w1 rfl ?_
  refine mm_wr rfl rfl rfl ?_
  exact congrArg (fun z : Int64 => ((Sum.inl (some (Value.long z)), μ) : mm_R)) (by decide)
theorem m_sp2 : mm_Call G d 147 [.int (vb_i 102), .int (vb_i 111), .int (vb_i 114), .int (vb_i 116), .int (vb_i 0), .int (vb_i 0), .int (vb_i 0)] μ (.inl (some (.long (nt_wl (tx_wl.getD 2 [])))), μ) := by
  refine mm_C.call ?_
  show mm_W _ _ 147 (mm_blk 147 0) [.int (vb_i 102), .int (vb_i 111), .int (vb_i 114), .int (vb_i 116), .int (vb_i 0), .int (vb_i 0), .int (vb_i 0), .null, .null] [] _ _
  refine mm_w1 rfl ?_
  refine mm_w1 rfl ?_
  refine mm_w1 rfl ?_
  refine mm_w1 rfl ?_
  refine mm_wv (vb_i 5) rfl (by decide) ?_
  refine mm_w1 rfl ?_
  refine mm_w1 rfl ?_
  refine mm_wv (vb_i 96) rfl (by decide) ?_
  refine mm_nsub (by omega) ?_
  refine mm_w1 rfl ?_
  refine mm_w1 rfl ?_
  refine mm_w1 (ls' := [_, _, _, _, _, _, _, _, _]) rfl ?_
  refine mm_w1 rfl ?_
  refine mm_nifeq (by decide) (fun h => absurd h (by decide)) (fun _ => ?_)
  refine mm_w1 rfl ?_
  refine mm_wv (vb_i 5) rfl (by decide) ?_
  refine mm_w1 rfl ?_
  refine mm_w1 rfl ?_
  refine mm_wv (vb_i 96) rfl (by decide) ?_
  refine mm_nsub (by omega) ?_
  refine mm_w1 rfl ?_
  refine mm_w1 rfl ?_
  refine mm_w1 (ls' := [_, _, _, _, _, _, _, _, _]) rfl ?_
  refine mm_w1 rfl ?_
  refine mm_nifeq (by decide) (fun h => absurd h (by decide)) (fun _ => ?_)
  refine mm_w1 rfl ?_
  refine mm_wv (vb_i 5) rfl (by decide) ?_
  refine mm_w1 rfl ?_
  refine mm_w1 rfl ?_
  refine mm_wv (vb_i 96) rfl (by decide) ?_
  refine mm_nsub (by omega) ?_
  refine mm_w1 rfl ?_
  refine mm_w1 rfl ?_
  refine mm_w1 (ls' := [_, _, _, _, _, _, _, _, _]) rfl ?_
  refine mm_w1 rfl ?_
  refine mm_nifeq (by decide) (fun _ => ?_) (fun h => absurd rfl h)
  refine mm_w1 rfl ?_
  refine mm_nifeq (by decide) (fun _ => ?_) (fun h => absurd rfl h)
  refine mm_w1 rfl ?_
  refine mm_nifeq (by decide) (fun _ => ?_) (fun h => absurd rfl h)
  refine mm_w1 rfl ?_
  refine mm_wr rfl rfl rfl ?_
  exact congrArg (fun z : Int64 => ((Sum.inl (some (Value.long z)), μ) : mm_R)) (by decide)
theorem m_sp3 : mm_Call G d 147 [.int (vb_i 119), .int (vb_i 111), .int (vb_i 114), .int (vb_i 116), .int (vb_i 104), .int (vb_i 0), .int (vb_i 0)] μ (.inl (some (.long (nt_wl (tx_wl.getD 3 [])))), μ) := by
  refine mm_C.call ?_
  show mm_W _ _ 147 (mm_blk 147 0) [.int (vb_i 119), .int (vb_i 111), .int (vb_i 114), .int (vb_i 116), .int (vb_i 104), .int (vb_i 0), .int (vb_i 0), .null, .null] [] _ _
  refine mm_w1 rfl ?_
  refine mm_w1 rfl ?_
  refine mm_w1 rfl ?_
  refine mm_w1 rfl ?_
  refine mm_wv (vb_i 5) rfl (by decide) ?_
  refine mm_w1 rfl ?_
  refine mm_w1 rfl ?_
  refine mm_wv (vb_i 96) rfl (by decide) ?_
  refine mm_nsub (by omega) ?_
  refine mm_w1 rfl ?_
  refine mm_w1 rfl ?_
  refine mm_w1 (ls' := [_, _, _, _, _, _, _, _, _]) rfl ?_
  refine mm_w1 rfl ?_
  refine mm_nifeq (by decide) (fun h => absurd h (by decide)) (fun _ => ?_)
  refine mm_w1 rfl ?_
  refine mm_wv (vb_i 5) rfl (by decide) ?_
  refine mm_w1 rfl ?_
  refine mm_w1 rfl ?_
  refine mm_wv (vb_i 96) rfl (by decide) ?_
  refine mm_nsub (by omega) ?_
  refine mm_w1 rfl ?_
  refine mm_w1 rfl ?_
  refine mm_w1 (ls' := [_, _, _, _, _, _, _, _, _]) rfl ?_
  refine mm_w1 rfl ?_
  refine mm_nifeq (by decide) (fun h => absurd h (by decide)) (fun _ => ?_)
  refine mm_w1 rfl ?_
  refine mm_wv (vb_i 5) rfl (by decide) ?_
  refine mm_w1 rfl ?_
  refine mm_w1 rfl ?_
  refine mm_wv (vb_i 96) rfl (by decide) ?_
  refine mm_nsub (by omega) ?_
  refine mm_w1 rfl ?_
  refine mm_w1 rfl ?_
  refine mm_w1 (ls' := [_, _, _, _, _, _, _, _, _]) rfl ?_
  refine mm_w1 rfl ?_
  refine mm_nifeq (by decide) (fun h => absurd h (by decide)) (fun _ => ?_)
  refine mm_w1 rfl ?_
  refine mm_wv (vb_i 5) rfl (by decide) ?_
  refine mm_w1 rfl ?_
  refine mm_w1 rfl ?_
  refine mm_wv (vb_i 96) rfl (by decide) ?_
  refine mm_nsub (by omega) ?_
  refine mm_w1 rfl ?_
  refine mm_w1 rfl ?_
  refine mm_w1 (ls' := [_, _, _, _, _, _, _, _, _]) rfl ?_
  refine mm_w1 rfl ?_
  refine mm_nifeq (by decide) (fun _ => ?_) (fun h => absurd rfl h)
  refine mm_w1 rfl ?_
  refine mm_nifeq (by decide) (fun _ => ?_) (fun h => absurd rfl h)
  refine mm_w1 rfl ?_
  refine mm_wr rfl rfl rfl ?_
  exact congrArg (fun z : Int64 => ((Sum.inl (some (Value.long z)), μ) : mm_R)) (by decide)
theorem m_sp4 : mm_Call G d 147 [.int (vb_i 104), .int (vb_i 111), .int (vb_i 109), .int (vb_i 101), .int (vb_i 0), .int (vb_i 0), .int (vb_i 0)] μ (.inl (some (.long (nt_wl (tx_wl.getD 4 [])))), μ) := by
  refine mm_C.call ?_
  show mm_W _ _ 147 (mm_blk 147 0) [.int (vb_i 104), .int (vb_i 111), .int (vb_i 109), .int (vb_i 101), .int (vb_i 0), .int (vb_i 0), .int (vb_i 0), .null, .null] [] _ _
  refine mm_w1 rfl ?_
  refine mm_w1 rfl ?_
  refine mm_w1 rfl ?_
  refine mm_w1 rfl ?_
  refine mm_wv (vb_i 5) rfl (by decide) ?_
  refine mm_w1 rfl ?_
  refine mm_w1 rfl ?_
  refine mm_wv (vb_i 96) rfl (by decide) ?_
  refine mm_nsub (by omega) ?_
  refine mm_w1 rfl ?_
  refine mm_w1 rfl ?_
  refine mm_w1 (ls' := [_, _, _, _, _, _, _, _, _]) rfl ?_
  refine mm_w1 rfl ?_
  refine mm_nifeq (by decide) (fun h => absurd h (by decide)) (fun _ => ?_)
  refine mm_w1 rfl ?_
  refine mm_wv (vb_i 5) rfl (by decide) ?_
  refine mm_w1 rfl ?_
  refine mm_w1 rfl ?_
  refine mm_wv (vb_i 96) rfl (by decide) ?_
  refine mm_nsub (by omega) ?_
  refine mm_w1 rfl ?_
  refine mm_w1 rfl ?_
  refine mm_w1 (ls' := [_, _, _, _, _, _, _, _, _]) rfl ?_
  refine mm_w1 rfl ?_
  refine mm_nifeq (by decide) (fun h => absurd h (by decide)) (fun _ => ?_)
  refine mm_w1 rfl ?_
  refine mm_wv (vb_i 5) rfl (by decide) ?_
  refine mm_w1 rfl ?_
  refine mm_w1 rfl ?_
  refine mm_wv (vb_i 96) rfl (by decide) ?_
  refine mm_nsub (by omega) ?_
  refine mm_w1 rfl ?_
  refine mm_w1 rfl ?_
  refine mm_w1 (ls' := [_, _, _, _, _, _, _, _, _]) rfl ?_
  refine mm_w1 rfl ?_
  refine mm_nifeq (by decide) (fun _ => ?_) (fun h => absurd rfl h)
  refine mm_w1 rfl ?_
  refine mm_nifeq (by decide) (fun _ => ?_) (fun h => absurd rfl h)
  refine mm_w1 rfl ?_
  refine mm_nifeq (by decide) (fun _ => ?_) (fun h => absurd rfl h)
  refine mm_w1 rfl ?_
  refine mm_wr rfl rfl rfl ?_
  exact congrArg (fun z : Int64 => ((Sum.inl (some (Value.long z)), μ) : mm_R)) (by decide)
theorem m_sp5 : mm_Call G d 147 [.int (vb_i 116), .int (vb_i 97), .int (vb_i 107), .int (vb_i 101), .int (vb_i 115), .int (vb_i 0), .int (vb_i 0)] μ (.inl (some (.long (nt_wl (tx_wl.getD 5 [])))), μ) := by
  refine mm_C.call ?_
  show mm_W _ _ 147 (mm_blk 147 0) [.int (vb_i 116), .int (vb_i 97), .int (vb_i 107), .int (vb_i 101), .int (vb_i 115), .int (vb_i 0), .int (vb_i 0), .null, .null] [] _ _
  refine mm_w1 rfl ?_
  refine mm_w1 rfl ?_
  refine mm_w1 rfl ?_
  refine mm_w1 rfl ?_
  refine mm_wv (vb_i 5) rfl (by decide) ?_
  refine mm_w1 rfl ?_
  refine mm_w1 rfl ?_
  refine mm_wv (vb_i 96) rfl (by decide) ?_
  refine mm_nsub (by omega) ?_
  refine mm_w1 rfl ?_
  refine mm_w1 rfl ?_
  refine mm_w1 (ls' := [_, _, _, _, _, _, _, _, _]) rfl ?_
  refine mm_w1 rfl ?_
  refine mm_nifeq (by decide) (fun h => absurd h (by decide)) (fun _ => ?_)
  refine mm_w1 rfl ?_
  refine mm_wv (vb_i 5) rfl (by decide) ?_
  refine mm_w1 rfl ?_
  refine mm_w1 rfl ?_
  refine mm_wv (vb_i 96) rfl (by decide) ?_
  refine mm_nsub (by omega) ?_
  refine mm_w1 rfl ?_
  refine mm_w1 rfl ?_
  refine mm_w1 (ls' := [_, _, _, _, _, _, _, _, _]) rfl ?_
  refine mm_w1 rfl ?_
  refine mm_nifeq (by decide) (fun h => absurd h (by decide)) (fun _ => ?_)
  refine mm_w1 rfl ?_
  refine mm_wv (vb_i 5) rfl (by decide) ?_
  refine mm_w1 rfl ?_
  refine mm_w1 rfl ?_
  refine mm_wv (vb_i 96) rfl (by decide) ?_
  refine mm_nsub (by omega) ?_
  refine mm_w1 rfl ?_
  refine mm_w1 rfl ?_
  refine mm_w1 (ls' := [_, _, _, _, _, _, _, _, _]) rfl ?_
  refine mm_w1 rfl ?_
  refine mm_nifeq (by decide) (fun h => absurd h (by decide)) (fun _ => ?_)
  refine mm_w1 rfl ?_
  refine mm_wv (vb_i 5) rfl (by decide) ?_
  refine mm_w1 rfl ?_
  refine mm_w1 rfl ?_
  refine mm_wv (vb_i 96) rfl (by decide) ?_
  refine mm_nsub (by omega) ?_
  refine mm_w1 rfl ?_
  refine mm_w1 rfl ?_
  refine mm_w1 (ls' := [_, _, _, _, _, _, _, _, _]) rfl ?_
  refine mm_w1 rfl ?_
  refine mm_nifeq (by decide) (fun _ => ?_) (fun h => absurd rfl h)
  refine mm_w1 rfl ?_
  refine mm_nifeq (by decide) (fun _ => ?_) (fun h => absurd rfl h)
  refine mm_w1 rfl ?_
  refine mm_wr rfl rfl rfl ?_
  exact congrArg (fun z : Int64 => ((Sum.inl (some (Value.long z)), μ) : mm_R)) (by decide)
theorem m_sp6 : mm_Call G d 147 [.int (vb_i 116), .int (vb_i 117), .int (vb_i 114), .int (vb_i 110), .int (vb_i 115), .int (vb_i 0), .int (vb_i 0)] μ (.inl (some (.long (nt_wl (tx_wl.getD 6 [])))), μ) := by
  refine mm_C.call ?_
  show mm_W _ _ 147 (mm_blk 147 0) [.int (vb_i 116), .int (vb_i 117), .int (vb_i 114), .int (vb_i 110), .int (vb_i 115), .int (vb_i 0), .int (vb_i 0), .null, .null] [] _ _
  refine mm_w1 rfl ?_
  refine mm_w1 rfl ?_
  refine mm_w1 rfl ?_
  refine mm_w1 rfl ?_
  refine mm_wv (vb_i 5) rfl (by decide) ?_
  refine mm_w1 rfl ?_
  refine mm_w1 rfl ?_
  refine mm_wv (vb_i 96) rfl (by decide) ?_
  refine mm_nsub (by omega) ?_
  refine mm_w1 rfl ?_
  refine mm_w1 rfl ?_
  refine mm_w1 (ls' := [_, _, _, _, _, _, _, _, _]) rfl ?_
  refine mm_w1 rfl ?_
  refine mm_nifeq (by decide) (fun h => absurd h (by decide)) (fun _ => ?_)
  refine mm_w1 rfl ?_
  refine mm_wv (vb_i 5) rfl (by decide) ?_
  refine mm_w1 rfl ?_
  refine mm_w1 rfl ?_
  refine mm_wv (vb_i 96) rfl (by decide) ?_
  refine mm_nsub (by omega) ?_
  refine mm_w1 rfl ?_
  refine mm_w1 rfl ?_
  refine mm_w1 (ls' := [_, _, _, _, _, _, _, _, _]) rfl ?_
  refine mm_w1 rfl ?_
  refine mm_nifeq (by decide) (fun h => absurd h (by decide)) (fun _ => ?_)
  refine mm_w1 rfl ?_
  refine mm_wv (vb_i 5) rfl (by decide) ?_
  refine mm_w1 rfl ?_
  refine mm_w1 rfl ?_
  refine mm_wv (vb_i 96) rfl (by decide) ?_
  refine mm_nsub (by omega) ?_
  refine mm_w1 rfl ?_
  refine mm_w1 rfl ?_
  refine mm_w1 (ls' := [_, _, _, _, _, _, _, _, _]) rfl ?_
  refine mm_w1 rfl ?_
  refine mm_nifeq (by decide) (fun h => absurd h (by decide)) (fun _ => ?_)
  refine mm_w1 rfl ?_
  refine mm_wv (vb_i 5) rfl (by decide) ?_
  refine mm_w1 rfl ?_
  refine mm_w1 rfl ?_
  refine mm_wv (vb_i 96) rfl (by decide) ?_
  refine mm_nsub (by omega) ?_
  refine mm_w1 rfl ?_
  refine mm_w1 rfl ?_
  refine mm_w1 (ls' := [_, _, _, _, _, _, _, _, _]) rfl ?_
  refine mm_w1 rfl ?_
  refine mm_nifeq (by decide) (fun _ => ?_) (fun h => absurd rfl h)
  refine mm_w1 rfl ?_
  refine mm_nifeq (by decide) (fun _ => ?_) (fun h => absurd rfl h)
  refine mm_w1 rfl ?_
  refine mm_wr rfl rfl rfl ?_
  exact congrArg (fun z : Int64 => ((Sum.inl (some (Value.long z)), μ) : mm_R)) (by decide)
theorem m_sp7 : mm_Call G d 147 [.int (vb_i 101), .int (vb_i 118), .int (vb_i 101), .int (vb_i 110), .int (vb_i 105), .int (vb_i 110), .int (vb_i 103)] μ (.inl (some (.long (nt_wl (tx_wl.getD 7 [])))), μ) := by
  refine mm_C.call ?_
  show mm_W _ _ 147 (mm_blk 147 0) [.int (vb_i 101), .int (vb_i 118), .int (vb_i 101), .int (vb_i 110), .int (vb_i 105), .int (vb_i 110), .int (vb_i 103), .null, .null] [] _ _
  refine mm_w1 rfl ?_
  refine mm_w1 rfl ?_
  refine mm_w1 rfl ?_
  refine mm_w1 rfl ?_
  refine mm_wv (vb_i 5) rfl (by decide) ?_
  refine mm_w1 rfl ?_
  refine mm_w1 rfl ?_
  refine mm_wv (vb_i 96) rfl (by decide) ?_
  refine mm_nsub (by omega) ?_
  refine mm_w1 rfl ?_
  refine mm_w1 rfl ?_
  refine mm_w1 (ls' := [_, _, _, _, _, _, _, _, _]) rfl ?_
  refine mm_w1 rfl ?_
  refine mm_nifeq (by decide) (fun h => absurd h (by decide)) (fun _ => ?_)
  refine mm_w1 rfl ?_
  refine mm_wv (vb_i 5) rfl (by decide) ?_
  refine mm_w1 rfl ?_
  refine mm_w1 rfl ?_
  refine mm_wv (vb_i 96) rfl (by decide) ?_
  refine mm_nsub (by omega) ?_
  refine mm_w1 rfl ?_
  refine mm_w1 rfl ?_
  refine mm_w1 (ls' := [_, _, _, _, _, _, _, _, _]) rfl ?_
  refine mm_w1 rfl ?_
  refine mm_nifeq (by decide) (fun h => absurd h (by decide)) (fun _ => ?_)
  refine mm_w1 rfl ?_
  refine mm_wv (vb_i 5) rfl (by decide) ?_
  refine mm_w1 rfl ?_
  refine mm_w1 rfl ?_
  refine mm_wv (vb_i 96) rfl (by decide) ?_
  refine mm_nsub (by omega) ?_
  refine mm_w1 rfl ?_
  refine mm_w1 rfl ?_
  refine mm_w1 (ls' := [_, _, _, _, _, _, _, _, _]) rfl ?_
  refine mm_w1 rfl ?_
  refine mm_nifeq (by decide) (fun h => absurd h (by decide)) (fun _ => ?_)
  refine mm_w1 rfl ?_
  refine mm_wv (vb_i 5) rfl (by decide) ?_
  refine mm_w1 rfl ?_
  refine mm_w1 rfl ?_
  refine mm_wv (vb_i 96) rfl (by decide) ?_
  refine mm_nsub (by omega) ?_
  refine mm_w1 rfl ?_
  refine mm_w1 rfl ?_
  refine mm_w1 (ls' := [_, _, _, _, _, _, _, _, _]) rfl ?_
  refine mm_w1 rfl ?_
  refine mm_nifeq (by decide) (fun h => absurd h (by decide)) (fun _ => ?_)
  refine mm_w1 rfl ?_
  refine mm_wv (vb_i 5) rfl (by decide) ?_
  refine mm_w1 rfl ?_
  refine mm_w1 rfl ?_
  refine mm_wv (vb_i 96) rfl (by decide) ?_
  refine mm_nsub (by omega) ?_
  refine mm_w1 rfl ?_
  refine mm_w1 rfl ?_
  refine mm_w1 (ls' := [_, _, _, _, _, _, _, _, _]) rfl ?_
  refine mm_w1 rfl ?_
  refine mm_nifeq (by decide) (fun h => absurd h (by decide)) (fun _ => ?_)
  refine mm_w1 rfl ?_
  refine mm_wv (vb_i 5) rfl (by decide) ?_
  refine mm_w1 rfl ?_
  refine mm_w1 rfl ?_
  refine mm_wv (vb_i 96) rfl (by decide) ?_
  refine mm_nsub (by omega) ?_
  refine mm_w1 rfl ?_
  refine mm_w1 rfl ?_
  refine mm_w1 (ls' := [_, _, _, _, _, _, _, _, _]) rfl ?_
  refine mm_w1 rfl ?_
  refine mm_wr rfl rfl rfl ?_
  exact congrArg (fun z : Int64 => ((Sum.inl (some (Value.long z)), μ) : mm_R)) (by decide)
theorem m_sp8 : mm_Call G d 147 [.int (vb_i 110), .int (vb_i 111), .int (vb_i 114), .int (vb_i 116), .int (vb_i 104), .int (vb_i 0), .int (vb_i 0)] μ (.inl (some (.long (nt_wl (tx_wl.getD 8 [])))), μ) := by
  refine mm_C.call ?_
  show mm_W _ _ 147 (mm_blk 147 0) [.int (vb_i 110), .int (vb_i 111), .int (vb_i 114), .int (vb_i 116), .int (vb_i 104), .int (vb_i 0), .int (vb_i 0), .null, .null] [] _ _
  refine mm_w1 rfl ?_
  refine mm_w1 rfl ?_
  refine mm_w1 rfl ?_
  refine mm_w1 rfl ?_
  refine mm_wv (vb_i 5) rfl (by decide) ?_
  refine mm_w1 rfl ?_
  refine mm_w1 rfl ?_
  refine mm_wv (vb_i 96) rfl (by decide) ?_
  refine mm_nsub (by omega) ?_
  refine mm_w1 rfl ?_
  refine mm_w1 rfl ?_
  refine mm_w1 (ls' := [_, _, _, _, _, _, _, _, _]) rfl ?_
  refine mm_w1 rfl ?_
  refine mm_nifeq (by decide) (fun h => absurd h (by decide)) (fun _ => ?_)
  refine mm_w1 rfl ?_
  refine mm_wv (vb_i 5) rfl (by decide) ?_
  refine mm_w1 rfl ?_
  refine mm_w1 rfl ?_
  refine mm_wv (vb_i 96) rfl (by decide) ?_
  refine mm_nsub (by omega) ?_
  refine mm_w1 rfl ?_
  refine mm_w1 rfl ?_
  refine mm_w1 (ls' := [_, _, _, _, _, _, _, _, _]) rfl ?_
  refine mm_w1 rfl ?_
  refine mm_nifeq (by decide) (fun h => absurd h (by decide)) (fun _ => ?_)
  refine mm_w1 rfl ?_
  refine mm_wv (vb_i 5) rfl (by decide) ?_
  refine mm_w1 rfl ?_
  refine mm_w1 rfl ?_
  refine mm_wv (vb_i 96) rfl (by decide) ?_
  refine mm_nsub (by omega) ?_
  refine mm_w1 rfl ?_
  refine mm_w1 rfl ?_
  refine mm_w1 (ls' := [_, _, _, _, _, _, _, _, _]) rfl ?_
  refine mm_w1 rfl ?_
  refine mm_nifeq (by decide) (fun h => absurd h (by decide)) (fun _ => ?_)
  refine mm_w1 rfl ?_
  refine mm_wv (vb_i 5) rfl (by decide) ?_
  refine mm_w1 rfl ?_
  refine mm_w1 rfl ?_
  refine mm_wv (vb_i 96) rfl (by decide) ?_
  refine mm_nsub (by omega) ?_
  refine mm_w1 rfl ?_
  refine mm_w1 rfl ?_
  refine mm_w1 (ls' := [_, _, _, _, _, _, _, _, _]) rfl ?_
  refine mm_w1 rfl ?_
  refine mm_nifeq (by decide) (fun _ => ?_) (fun h => absurd rfl h)
  refine mm_w1 rfl ?_
  refine mm_nifeq (by decide) (fun _ => ?_) (fun h => absurd rfl h)
  refine mm_w1 rfl ?_
  refine mm_wr rfl rfl rfl ?_
  exact congrArg (fun z : Int64 => ((Sum.inl (some (Value.long z)), μ) : mm_R)) (by decide)
theorem m_sp9 : mm_Call G d 147 [.int (vb_i 115), .int (vb_i 111), .int (vb_i 117), .int (vb_i 116), .int (vb_i 104), .int (vb_i 0), .int (vb_i 0)] μ (.inl (some (.long (nt_wl (tx_wl.getD 9 [])))), μ) := by
  refine mm_C.call ?_
  show mm_W _ _ 147 (mm_blk 147 0) [.int (vb_i 115), .int (vb_i 111), .int (vb_i 117), .int (vb_i 116), .int (vb_i 104), .int (vb_i 0), .int (vb_i 0), .null, .null] [] _ _
  refine mm_w1 rfl ?_
  refine mm_w1 rfl ?_
  refine mm_w1 rfl ?_
  refine mm_w1 rfl ?_
  refine mm_wv (vb_i 5) rfl (by decide) ?_
  refine mm_w1 rfl ?_
  refine mm_w1 rfl ?_
  refine mm_wv (vb_i 96) rfl (by decide) ?_
  refine mm_nsub (by omega) ?_
  refine mm_w1 rfl ?_
  refine mm_w1 rfl ?_
  refine mm_w1 (ls' := [_, _, _, _, _, _, _, _, _]) rfl ?_
  refine mm_w1 rfl ?_
  refine mm_nifeq (by decide) (fun h => absurd h (by decide)) (fun _ => ?_)
  refine mm_w1 rfl ?_
  refine mm_wv (vb_i 5) rfl (by decide) ?_
  refine mm_w1 rfl ?_
  refine mm_w1 rfl ?_
  refine mm_wv (vb_i 96) rfl (by decide) ?_
  refine mm_nsub (by omega) ?_
  refine mm_w1 rfl ?_
  refine mm_w1 rfl ?_
  refine mm_w1 (ls' := [_, _, _, _, _, _, _, _, _]) rfl ?_
  refine mm_w1 rfl ?_
  refine mm_nifeq (by decide) (fun h => absurd h (by decide)) (fun _ => ?_)
  refine mm_w1 rfl ?_
  refine mm_wv (vb_i 5) rfl (by decide) ?_
  refine mm_w1 rfl ?_
  refine mm_w1 rfl ?_
  refine mm_wv (vb_i 96) rfl (by decide) ?_
  refine mm_nsub (by omega) ?_
  refine mm_w1 rfl ?_
  refine mm_w1 rfl ?_
  refine mm_w1 (ls' := [_, _, _, _, _, _, _, _, _]) rfl ?_
  refine mm_w1 rfl ?_
  refine mm_nifeq (by decide) (fun h => absurd h (by decide)) (fun _ => ?_)
  refine mm_w1 rfl ?_
  refine mm_wv (vb_i 5) rfl (by decide) ?_
  refine mm_w1 rfl ?_
  refine mm_w1 rfl ?_
  refine mm_wv (vb_i 96) rfl (by decide) ?_
  refine mm_nsub (by omega) ?_
  refine mm_w1 rfl ?_
  refine mm_w1 rfl ?_
  refine mm_w1 (ls' := [_, _, _, _, _, _, _, _, _]) rfl ?_
  refine mm_w1 rfl ?_
  refine mm_nifeq (by decide) (fun _ => ?_) (fun h => absurd rfl h)
  refine mm_w1 rfl ?_
  refine mm_nifeq (by decide) (fun _ => ?_) (fun h => absurd rfl h)
  refine mm_w1 rfl ?_
  refine mm_wr rfl rfl rfl ?_
  exact congrArg (fun z : Int64 => ((Sum.inl (some (Value.long z)), μ) : mm_R)) (by decide)
theorem m_sp10 : mm_Call G d 147 [.int (vb_i 102), .int (vb_i 114), .int (vb_i 101), .int (vb_i 101), .int (vb_i 0), .int (vb_i 0), .int (vb_i 0)] μ (.inl (some (.long (nt_wl (tx_wl.getD 10 [])))), μ) := by
  refine mm_C.call ?_
  show mm_W _ _ 147 (mm_blk 147 0) [.int (vb_i 102), .int (vb_i 114), .int (vb_i 101), .int (vb_i 101), .int (vb_i 0), .int (vb_i 0), .int (vb_i 0), .null, .null] [] _ _
  refine mm_w1 rfl ?_
  refine mm_w1 rfl ?_
  refine mm_w1 rfl ?_
  refine mm_w1 rfl ?_
  refine mm_wv (vb_i 5) rfl (by decide) ?_
  refine mm_w1 rfl ?_
  refine mm_w1 rfl ?_
  refine mm_wv (vb_i 96) rfl (by decide) ?_
  refine mm_nsub (by omega) ?_
  refine mm_w1 rfl ?_
  refine mm_w1 rfl ?_
  refine mm_w1 (ls' := [_, _, _, _, _, _, _, _, _]) rfl ?_
  refine mm_w1 rfl ?_
  refine mm_nifeq (by decide) (fun h => absurd h (by decide)) (fun _ => ?_)
  refine mm_w1 rfl ?_
  refine mm_wv (vb_i 5) rfl (by decide) ?_
  refine mm_w1 rfl ?_
  refine mm_w1 rfl ?_
  refine mm_wv (vb_i 96) rfl (by decide) ?_
  refine mm_nsub (by omega) ?_
  refine mm_w1 rfl ?_
  refine mm_w1 rfl ?_
  refine mm_w1 (ls' := [_, _, _, _, _, _, _, _, _]) rfl ?_
  refine mm_w1 rfl ?_
  refine mm_nifeq (by decide) (fun h => absurd h (by decide)) (fun _ => ?_)
  refine mm_w1 rfl ?_
  refine mm_wv (vb_i 5) rfl (by decide) ?_
  refine mm_w1 rfl ?_
  refine mm_w1 rfl ?_
  refine mm_wv (vb_i 96) rfl (by decide) ?_
  refine mm_nsub (by omega) ?_
  refine mm_w1 rfl ?_
  refine mm_w1 rfl ?_
  refine mm_w1 (ls' := [_, _, _, _, _, _, _, _, _]) rfl ?_
  refine mm_w1 rfl ?_
  refine mm_nifeq (by decide) (fun _ => ?_) (fun h => absurd rfl h)
  refine mm_w1 rfl ?_
  refine mm_nifeq (by decide) (fun _ => ?_) (fun h => absurd rfl h)
  refine mm_w1 rfl ?_
  refine mm_nifeq (by decide) (fun _ => ?_) (fun h => absurd rfl h)
  refine mm_w1 rfl ?_
  refine mm_wr rfl rfl rfl ?_
  exact congrArg (fun z : Int64 => ((Sum.inl (some (Value.long z)), μ) : mm_R)) (by decide)
theorem m_sp11 : mm_Call G d 147 [.int (vb_i 114), .int (vb_i 111), .int (vb_i 97), .int (vb_i 100), .int (vb_i 0), .int (vb_i 0), .int (vb_i 0)] μ (.inl (some (.long (nt_wl (tx_wl.getD 11 [])))), μ) := by
  refine mm_C.call ?_
  show mm_W _ _ 147 (mm_blk 147 0) [.int (vb_i 114), .int (vb_i 111), .int (vb_i 97), .int (vb_i 100), .int (vb_i 0), .int (vb_i 0), .int (vb_i 0), .null, .null] [] _ _
  refine mm_w1 rfl ?_
  refine mm_w1 rfl ?_
  refine mm_w1 rfl ?_
  refine mm_w1 rfl ?_
  refine mm_wv (vb_i 5) rfl (by decide) ?_
  refine mm_w1 rfl ?_
  refine mm_w1 rfl ?_
  refine mm_wv (vb_i 96) rfl (by decide) ?_
  refine mm_nsub (by omega) ?_
  refine mm_w1 rfl ?_
  refine mm_w1 rfl ?_
  refine mm_w1 (ls' := [_, _, _, _, _, _, _, _, _]) rfl ?_
  refine mm_w1 rfl ?_
  refine mm_nifeq (by decide) (fun h => absurd h (by decide)) (fun _ => ?_)
  refine mm_w1 rfl ?_
  refine mm_wv (vb_i 5) rfl (by decide) ?_
  refine mm_w1 rfl ?_
  refine mm_w1 rfl ?_
  refine mm_wv (vb_i 96) rfl (by decide) ?_
  refine mm_nsub (by omega) ?_
  refine mm_w1 rfl ?_
  refine mm_w1 rfl ?_
  refine mm_w1 (ls' := [_, _, _, _, _, _, _, _, _]) rfl ?_
  refine mm_w1 rfl ?_
  refine mm_nifeq (by decide) (fun h => absurd h (by decide)) (fun _ => ?_)
  refine mm_w1 rfl ?_
  refine mm_wv (vb_i 5) rfl (by decide) ?_
  refine mm_w1 rfl ?_
  refine mm_w1 rfl ?_
  refine mm_wv (vb_i 96) rfl (by decide) ?_
  refine mm_nsub (by omega) ?_
  refine mm_w1 rfl ?_
  refine mm_w1 rfl ?_
  refine mm_w1 (ls' := [_, _, _, _, _, _, _, _, _]) rfl ?_
  refine mm_w1 rfl ?_
  refine mm_nifeq (by decide) (fun _ => ?_) (fun h => absurd rfl h)
  refine mm_w1 rfl ?_
  refine mm_nifeq (by decide) (fun _ => ?_) (fun h => absurd rfl h)
  refine mm_w1 rfl ?_
  refine mm_nifeq (by decide) (fun _ => ?_) (fun h => absurd rfl h)
  refine mm_w1 rfl ?_
  refine mm_wr rfl rfl rfl ?_
  exact congrArg (fun z : Int64 => ((Sum.inl (some (Value.long z)), μ) : mm_R)) (by decide)
theorem m_sp12 : mm_Call G d 147 [.int (vb_i 115), .int (vb_i 116), .int (vb_i 121), .int (vb_i 108), .int (vb_i 101), .int (vb_i 0), .int (vb_i 0)] μ (.inl (some (.long (nt_wl (tx_wl.getD 12 [])))), μ) := by
  refine mm_C.call ?_
  show mm_W _ _ 147 (mm_blk 147 0) [.int (vb_i 115), .int (vb_i 116), .int (vb_i 121), .int (vb_i 108), .int (vb_i 101), .int (vb_i 0), .int (vb_i 0), .null, .null] [] _ _
  refine mm_w1 rfl ?_
  refine mm_w1 rfl ?_
  refine mm_w1 rfl ?_
  refine mm_w1 rfl ?_
  refine mm_wv (vb_i 5) rfl (by decide) ?_
  refine mm_w1 rfl ?_
  refine mm_w1 rfl ?_
  refine mm_wv (vb_i 96) rfl (by decide) ?_
  refine mm_nsub (by omega) ?_
  refine mm_w1 rfl ?_
  refine mm_w1 rfl ?_
  refine mm_w1 (ls' := [_, _, _, _, _, _, _, _, _]) rfl ?_
  refine mm_w1 rfl ?_
  refine mm_nifeq (by decide) (fun h => absurd h (by decide)) (fun _ => ?_)
  refine mm_w1 rfl ?_
  refine mm_wv (vb_i 5) rfl (by decide) ?_
  refine mm_w1 rfl ?_
  refine mm_w1 rfl ?_
  refine mm_wv (vb_i 96) rfl (by decide) ?_
  refine mm_nsub (by omega) ?_
  refine mm_w1 rfl ?_
  refine mm_w1 rfl ?_
  refine mm_w1 (ls' := [_, _, _, _, _, _, _, _, _]) rfl ?_
  refine mm_w1 rfl ?_
  refine mm_nifeq (by decide) (fun h => absurd h (by decide)) (fun _ => ?_)
  refine mm_w1 rfl ?_
  refine mm_wv (vb_i 5) rfl (by decide) ?_
  refine mm_w1 rfl ?_
  refine mm_w1 rfl ?_
  refine mm_wv (vb_i 96) rfl (by decide) ?_
  refine mm_nsub (by omega) ?_
  refine mm_w1 rfl ?_
  refine mm_w1 rfl ?_
  refine mm_w1 (ls' := [_, _, _, _, _, _, _, _, _]) rfl ?_
  refine mm_w1 rfl ?_
  refine mm_nifeq (by decide) (fun h => absurd h (by decide)) (fun _ => ?_)
  refine mm_w1 rfl ?_
  refine mm_wv (vb_i 5) rfl (by decide) ?_
  refine mm_w1 rfl ?_
  refine mm_w1 rfl ?_
  refine mm_wv (vb_i 96) rfl (by decide) ?_
  refine mm_nsub (by omega) ?_
  refine mm_w1 rfl ?_
  refine mm_w1 rfl ?_
  refine mm_w1 (ls' := [_, _, _, _, _, _, _, _, _]) rfl ?_
  refine mm_w1 rfl ?_
  refine mm_nifeq (by decide) (fun _ => ?_) (fun h => absurd rfl h)
  refine mm_w1 rfl ?_
  refine mm_nifeq (by decide) (fun _ => ?_) (fun h => absurd rfl h)
  refine mm_w1 rfl ?_
  refine mm_wr rfl rfl rfl ?_
  exact congrArg (fun z : Int64 => ((Sum.inl (some (Value.long z)), μ) : mm_R)) (by decide)
theorem m_sp13 : mm_Call G d 147 [.int (vb_i 97), .int (vb_i 110), .int (vb_i 100), .int (vb_i 0), .int (vb_i 0), .int (vb_i 0), .int (vb_i 0)] μ (.inl (some (.long (nt_wl (tx_wl.getD 13 [])))), μ) := by
  refine mm_C.call ?_
  show mm_W _ _ 147 (mm_blk 147 0) [.int (vb_i 97), .int (vb_i 110), .int (vb_i 100), .int (vb_i 0), .int (vb_i 0), .int (vb_i 0), .int (vb_i 0), .null, .null] [] _ _
  refine mm_w1 rfl ?_
  refine mm_w1 rfl ?_
  refine mm_w1 rfl ?_
  refine mm_w1 rfl ?_
  refine mm_wv (vb_i 5) rfl (by decide) ?_
  refine mm_w1 rfl ?_
  refine mm_w1 rfl ?_
  refine mm_wv (vb_i 96) rfl (by decide) ?_
  refine mm_nsub (by omega) ?_
  refine mm_w1 rfl ?_
  refine mm_w1 rfl ?_
  refine mm_w1 (ls' := [_, _, _, _, _, _, _, _, _]) rfl ?_
  refine mm_w1 rfl ?_
  refine mm_nifeq (by decide) (fun h => absurd h (by decide)) (fun _ => ?_)
  refine mm_w1 rfl ?_
  refine mm_wv (vb_i 5) rfl (by decide) ?_
  refine mm_w1 rfl ?_
  refine mm_w1 rfl ?_
  refine mm_wv (vb_i 96) rfl (by decide) ?_
  refine mm_nsub (by omega) ?_
  refine mm_w1 rfl ?_
  refine mm_w1 rfl ?_
  refine mm_w1 (ls' := [_, _, _, _, _, _, _, _, _]) rfl ?_
  refine mm_w1 rfl ?_
  refine mm_nifeq (by decide) (fun _ => ?_) (fun h => absurd rfl h)
  refine mm_w1 rfl ?_
  refine mm_nifeq (by decide) (fun _ => ?_) (fun h => absurd rfl h)
  refine mm_w1 rfl ?_
  refine mm_nifeq (by decide) (fun _ => ?_) (fun h => absurd rfl h)
  refine mm_w1 rfl ?_
  refine mm_nifeq (by decide) (fun _ => ?_) (fun h => absurd rfl h)
  refine mm_w1 rfl ?_
  refine mm_wr rfl rfl rfl ?_
  exact congrArg (fun z : Int64 => ((Sum.inl (some (Value.long z)), μ) : mm_R)) (by decide)
theorem m_sp14 : mm_Call G d 147 [.int (vb_i 111), .int (vb_i 114), .int (vb_i 0), .int (vb_i 0), .int (vb_i 0), .int (vb_i 0), .int (vb_i 0)] μ (.inl (some (.long (nt_wl (tx_wl.getD 14 [])))), μ) := by
  refine mm_C.call ?_
  show mm_W _ _ 147 (mm_blk 147 0) [.int (vb_i 111), .int (vb_i 114), .int (vb_i 0), .int (vb_i 0), .int (vb_i 0), .int (vb_i 0), .int (vb_i 0), .null, .null] [] _ _
  refine mm_w1 rfl ?_
  refine mm_w1 rfl ?_
  refine mm_w1 rfl ?_
  refine mm_w1 rfl ?_
  refine mm_wv (vb_i 5) rfl (by decide) ?_
  refine mm_w1 rfl ?_
  refine mm_w1 rfl ?_
  refine mm_wv (vb_i 96) rfl (by decide) ?_
  refine mm_nsub (by omega) ?_
  refine mm_w1 rfl ?_
  refine mm_w1 rfl ?_
  refine mm_w1 (ls' := [_, _, _, _, _, _, _, _, _]) rfl ?_
  refine mm_w1 rfl ?_
  refine mm_nifeq (by decide) (fun _ => ?_) (fun h => absurd rfl h)
  refine mm_w1 rfl ?_
  refine mm_nifeq (by decide) (fun _ => ?_) (fun h => absurd rfl h)
  refine mm_w1 rfl ?_
  refine mm_nifeq (by decide) (fun _ => ?_) (fun h => absurd rfl h)
  refine mm_w1 rfl ?_
  refine mm_nifeq (by decide) (fun _ => ?_) (fun h => absurd rfl h)
  refine mm_w1 rfl ?_
  refine mm_nifeq (by decide) (fun _ => ?_) (fun h => absurd rfl h)
  refine mm_w1 rfl ?_
  refine mm_wr rfl rfl rfl ?_
  exact congrArg (fun z : Int64 => ((Sum.inl (some (Value.long z)), μ) : mm_R)) (by decide)
theorem m_sp15 : mm_Call G d 147 [.int (vb_i 110), .int (vb_i 111), .int (vb_i 116), .int (vb_i 0), .int (vb_i 0), .int (vb_i 0), .int (vb_i 0)] μ (.inl (some (.long (nt_wl (tx_wl.getD 15 [])))), μ) := by
  refine mm_C.call ?_
  show mm_W _ _ 147 (mm_blk 147 0) [.int (vb_i 110), .int (vb_i 111), .int (vb_i 116), .int (vb_i 0), .int (vb_i 0), .int (vb_i 0), .int (vb_i 0), .null, .null] [] _ _
  refine mm_w1 rfl ?_
  refine mm_w1 rfl ?_
  refine mm_w1 rfl ?_
  refine mm_w1 rfl ?_
  refine mm_wv (vb_i 5) rfl (by decide) ?_
  refine mm_w1 rfl ?_
  refine mm_w1 rfl ?_
  refine mm_wv (vb_i 96) rfl (by decide) ?_
  refine mm_nsub (by omega) ?_
  refine mm_w1 rfl ?_
  refine mm_w1 rfl ?_
  refine mm_w1 (ls' := [_, _, _, _, _, _, _, _, _]) rfl ?_
  refine mm_w1 rfl ?_
  refine mm_nifeq (by decide) (fun h => absurd h (by decide)) (fun _ => ?_)
  refine mm_w1 rfl ?_
  refine mm_wv (vb_i 5) rfl (by decide) ?_
  refine mm_w1 rfl ?_
  refine mm_w1 rfl ?_
  refine mm_wv (vb_i 96) rfl (by decide) ?_
  refine mm_nsub (by omega) ?_
  refine mm_w1 rfl ?_
  refine mm_w1 rfl ?_
  refine mm_w1 (ls' := [_, _, _, _, _, _, _, _, _]) rfl ?_
  refine mm_w1 rfl ?_
  refine mm_nifeq (by decide) (fun _ => ?_) (fun h => absurd rfl h)
  refine mm_w1 rfl ?_
  refine mm_nifeq (by decide) (fun _ => ?_) (fun h => absurd rfl h)
  refine mm_w1 rfl ?_
  refine mm_nifeq (by decide) (fun _ => ?_) (fun h => absurd rfl h)
  refine mm_w1 rfl ?_
  refine mm_nifeq (by decide) (fun _ => ?_) (fun h => absurd rfl h)
  refine mm_w1 rfl ?_
  refine mm_wr rfl rfl rfl ?_
  exact congrArg (fun z : Int64 => ((Sum.inl (some (Value.long z)), μ) : mm_R)) (by decide)
theorem m_letters {k : Nat} (hk : k < 16) (hd : 1 ≤ d) : mm_Call G d 148 [.int (vb_i k)] μ (.inl (some (.long (nt_wl (tx_wl.getD k [])))), μ) := by
  refine mm_C.call ?_
  have h : k = 0 ∨ k = 1 ∨ k = 2 ∨ k = 3 ∨ k = 4 ∨ k = 5 ∨ k = 6 ∨ k = 7 ∨ k = 8 ∨ k = 9 ∨ k = 10 ∨ k = 11 ∨ k = 12 ∨ k = 13 ∨ k = 14 ∨ k = 15 := by omega
  rcases h with rfl | rfl | rfl | rfl | rfl | rfl | rfl | rfl | rfl | rfl | rfl | rfl | rfl | rfl | rfl | rfl
  · show mm_W _ _ 148 (mm_blk 148 0) [.int (vb_i 0)] [] _ _
    refine mm_w1 rfl ?_
    refine mm_wts 76 (by decide +kernel) ?_
    refine mm_wv (vb_i 104) rfl (by decide) ?_
    refine mm_wv (vb_i 101) rfl (by decide) ?_
    refine mm_wv (vb_i 108) rfl (by decide) ?_
    refine mm_wv (vb_i 112) rfl (by decide) ?_
    refine mm_wv (vb_i 115) rfl (by decide) ?_
    refine mm_wv (vb_i 0) rfl (by decide) ?_
    refine mm_wv (vb_i 0) rfl (by decide) ?_
    refine mm_csp rfl (by decide) (by omega) m_sp0 ?_
    refine mm_wr rfl rfl rfl ?_
    rfl
  · show mm_W _ _ 148 (mm_blk 148 0) [.int (vb_i 1)] [] _ _
    refine mm_w1 rfl ?_
    refine mm_wts 92 (by decide +kernel) ?_
    refine mm_wv (vb_i 103) rfl (by decide) ?_
    refine mm_wv (vb_i 117) rfl (by decide) ?_
    refine mm_wv (vb_i 97) rfl (by decide) ?_
    refine mm_wv (vb_i 114) rfl (by decide) ?_
    refine mm_wv (vb_i 100) rfl (by decide) ?_
    refine mm_wv (vb_i 115) rfl (by decide) ?_
    refine mm_wv (vb_i 0) rfl (by decide) ?_
    refine mm_csp rfl (by decide) (by omega) m_sp1 ?_
    refine mm_wr rfl rfl rfl ?_
    rfl
  · show mm_W _ _ 148 (mm_blk 148 0) [.int (vb_i 2)] [] _ _
    refine mm_w1 rfl ?_
    refine mm_wts 109 (by decide +kernel) ?_
    refine mm_wv (vb_i 102) rfl (by decide) ?_
    refine mm_wv (vb_i 111) rfl (by decide) ?_
    refine mm_wv (vb_i 114) rfl (by decide) ?_
    refine mm_wv (vb_i 116) rfl (by decide) ?_
    refine mm_wv (vb_i 0) rfl (by decide) ?_
    refine mm_wv (vb_i 0) rfl (by decide) ?_
    refine mm_wv (vb_i 0) rfl (by decide) ?_
    refine mm_csp rfl (by decide) (by omega) m_sp2 ?_
    refine mm_wr rfl rfl rfl ?_
    rfl
  · show mm_W _ _ 148 (mm_blk 148 0) [.int (vb_i 3)] [] _ _
    refine mm_w1 rfl ?_
    refine mm_wts 124 (by decide +kernel) ?_
    refine mm_wv (vb_i 119) rfl (by decide) ?_
    refine mm_wv (vb_i 111) rfl (by decide) ?_
    refine mm_wv (vb_i 114) rfl (by decide) ?_
    refine mm_wv (vb_i 116) rfl (by decide) ?_
    refine mm_wv (vb_i 104) rfl (by decide) ?_
    refine mm_wv (vb_i 0) rfl (by decide) ?_
    refine mm_wv (vb_i 0) rfl (by decide) ?_
    refine mm_csp rfl (by decide) (by omega) m_sp3 ?_
    refine mm_wr rfl rfl rfl ?_
    rfl
  · show mm_W _ _ 148 (mm_blk 148 0) [.int (vb_i 4)] [] _ _
    refine mm_w1 rfl ?_
    refine mm_wts 140 (by decide +kernel) ?_
    refine mm_wv (vb_i 104) rfl (by decide) ?_
    refine mm_wv (vb_i 111) rfl (by decide) ?_
    refine mm_wv (vb_i 109) rfl (by decide) ?_
    refine mm_wv (vb_i 101) rfl (by decide) ?_
    refine mm_wv (vb_i 0) rfl (by decide) ?_
    refine mm_wv (vb_i 0) rfl (by decide) ?_
    refine mm_wv (vb_i 0) rfl (by decide) ?_
    refine mm_csp rfl (by decide) (by omega) m_sp4 ?_
    refine mm_wr rfl rfl rfl ?_
    rfl
  · show mm_W _ _ 148 (mm_blk 148 0) [.int (vb_i 5)] [] _ _
    refine mm_w1 rfl ?_
    refine mm_wts 155 (by decide +kernel) ?_
    refine mm_wv (vb_i 116) rfl (by decide) ?_
    refine mm_wv (vb_i 97) rfl (by decide) ?_
    refine mm_wv (vb_i 107) rfl (by decide) ?_
    refine mm_wv (vb_i 101) rfl (by decide) ?_
    refine mm_wv (vb_i 115) rfl (by decide) ?_
    refine mm_wv (vb_i 0) rfl (by decide) ?_
    refine mm_wv (vb_i 0) rfl (by decide) ?_
    refine mm_csp rfl (by decide) (by omega) m_sp5 ?_
    refine mm_wr rfl rfl rfl ?_
    rfl
  · show mm_W _ _ 148 (mm_blk 148 0) [.int (vb_i 6)] [] _ _
    refine mm_w1 rfl ?_
    refine mm_wts 171 (by decide +kernel) ?_
    refine mm_wv (vb_i 116) rfl (by decide) ?_
    refine mm_wv (vb_i 117) rfl (by decide) ?_
    refine mm_wv (vb_i 114) rfl (by decide) ?_
    refine mm_wv (vb_i 110) rfl (by decide) ?_
    refine mm_wv (vb_i 115) rfl (by decide) ?_
    refine mm_wv (vb_i 0) rfl (by decide) ?_
    refine mm_wv (vb_i 0) rfl (by decide) ?_
    refine mm_csp rfl (by decide) (by omega) m_sp6 ?_
    refine mm_wr rfl rfl rfl ?_
    rfl
  · show mm_W _ _ 148 (mm_blk 148 0) [.int (vb_i 7)] [] _ _
    refine mm_w1 rfl ?_
    refine mm_wts 187 (by decide +kernel) ?_
    refine mm_wv (vb_i 101) rfl (by decide) ?_
    refine mm_wv (vb_i 118) rfl (by decide) ?_
    refine mm_wv (vb_i 101) rfl (by decide) ?_
    refine mm_wv (vb_i 110) rfl (by decide) ?_
    refine mm_wv (vb_i 105) rfl (by decide) ?_
    refine mm_wv (vb_i 110) rfl (by decide) ?_
    refine mm_wv (vb_i 103) rfl (by decide) ?_
    refine mm_csp rfl (by decide) (by omega) m_sp7 ?_
    refine mm_wr rfl rfl rfl ?_
    rfl
  · show mm_W _ _ 148 (mm_blk 148 0) [.int (vb_i 8)] [] _ _
    refine mm_w1 rfl ?_
    refine mm_wts 205 (by decide +kernel) ?_
    refine mm_wv (vb_i 110) rfl (by decide) ?_
    refine mm_wv (vb_i 111) rfl (by decide) ?_
    refine mm_wv (vb_i 114) rfl (by decide) ?_
    refine mm_wv (vb_i 116) rfl (by decide) ?_
    refine mm_wv (vb_i 104) rfl (by decide) ?_
    refine mm_wv (vb_i 0) rfl (by decide) ?_
    refine mm_wv (vb_i 0) rfl (by decide) ?_
    refine mm_csp rfl (by decide) (by omega) m_sp8 ?_
    refine mm_wr rfl rfl rfl ?_
    rfl
  · show mm_W _ _ 148 (mm_blk 148 0) [.int (vb_i 9)] [] _ _
    refine mm_w1 rfl ?_
    refine mm_wts 221 (by decide +kernel) ?_
    refine mm_wv (vb_i 115) rfl (by decide) ?_
    refine mm_wv (vb_i 111) rfl (by decide) ?_
    refine mm_wv (vb_i 117) rfl (by decide) ?_
    refine mm_wv (vb_i 116) rfl (by decide) ?_
    refine mm_wv (vb_i 104) rfl (by decide) ?_
    refine mm_wv (vb_i 0) rfl (by decide) ?_
    refine mm_wv (vb_i 0) rfl (by decide) ?_
    refine mm_csp rfl (by decide) (by omega) m_sp9 ?_
    refine mm_wr rfl rfl rfl ?_
    rfl
  · show mm_W _ _ 148 (mm_blk 148 0) [.int (vb_i 10)] [] _ _
    refine mm_w1 rfl ?_
    refine mm_wts 237 (by decide +kernel) ?_
    refine mm_wv (vb_i 102) rfl (by decide) ?_
    refine mm_wv (vb_i 114) rfl (by decide) ?_
    refine mm_wv (vb_i 101) rfl (by decide) ?_
    refine mm_wv (vb_i 101) rfl (by decide) ?_
    refine mm_wv (vb_i 0) rfl (by decide) ?_
    refine mm_wv (vb_i 0) rfl (by decide) ?_
    refine mm_wv (vb_i 0) rfl (by decide) ?_
    refine mm_csp rfl (by decide) (by omega) m_sp10 ?_
    refine mm_wr rfl rfl rfl ?_
    rfl
  · show mm_W _ _ 148 (mm_blk 148 0) [.int (vb_i 11)] [] _ _
    refine mm_w1 rfl ?_
    refine mm_wts 252 (by decide +kernel) ?_
    refine mm_wv (vb_i 114) rfl (by decide) ?_
    refine mm_wv (vb_i 111) rfl (by decide) ?_
    refine mm_wv (vb_i 97) rfl (by decide) ?_
    refine mm_wv (vb_i 100) rfl (by decide) ?_
    refine mm_wv (vb_i 0) rfl (by decide) ?_
    refine mm_wv (vb_i 0) rfl (by decide) ?_
    refine mm_wv (vb_i 0) rfl (by decide) ?_
    refine mm_csp rfl (by decide) (by omega) m_sp11 ?_
    refine mm_wr rfl rfl rfl ?_
    rfl
  · show mm_W _ _ 148 (mm_blk 148 0) [.int (vb_i 12)] [] _ _
    refine mm_w1 rfl ?_
    refine mm_wts 267 (by decide +kernel) ?_
    refine mm_wv (vb_i 115) rfl (by decide) ?_
    refine mm_wv (vb_i 116) rfl (by decide) ?_
    refine mm_wv (vb_i 121) rfl (by decide) ?_
    refine mm_wv (vb_i 108) rfl (by decide) ?_
    refine mm_wv (vb_i 101) rfl (by decide) ?_
    refine mm_wv (vb_i 0) rfl (by decide) ?_
    refine mm_wv (vb_i 0) rfl (by decide) ?_
    refine mm_csp rfl (by decide) (by omega) m_sp12 ?_
    refine mm_wr rfl rfl rfl ?_
    rfl
  · show mm_W _ _ 148 (mm_blk 148 0) [.int (vb_i 13)] [] _ _
    refine mm_w1 rfl ?_
    refine mm_wts 283 (by decide +kernel) ?_
    refine mm_wv (vb_i 97) rfl (by decide) ?_
    refine mm_wv (vb_i 110) rfl (by decide) ?_
    refine mm_wv (vb_i 100) rfl (by decide) ?_
    refine mm_wv (vb_i 0) rfl (by decide) ?_
    refine mm_wv (vb_i 0) rfl (by decide) ?_
    refine mm_wv (vb_i 0) rfl (by decide) ?_
    refine mm_wv (vb_i 0) rfl (by decide) ?_
    refine mm_csp rfl (by decide) (by omega) m_sp13 ?_
    refine mm_wr rfl rfl rfl ?_
    rfl
  · show mm_W _ _ 148 (mm_blk 148 0) [.int (vb_i 14)] [] _ _
    refine mm_w1 rfl ?_
    refine mm_wts 297 (by decide +kernel) ?_
    refine mm_wv (vb_i 111) rfl (by decide) ?_
    refine mm_wv (vb_i 114) rfl (by decide) ?_
    refine mm_wv (vb_i 0) rfl (by decide) ?_
    refine mm_wv (vb_i 0) rfl (by decide) ?_
    refine mm_wv (vb_i 0) rfl (by decide) ?_
    refine mm_wv (vb_i 0) rfl (by decide) ?_
    refine mm_wv (vb_i 0) rfl (by decide) ?_
    refine mm_csp rfl (by decide) (by omega) m_sp14 ?_
    refine mm_wr rfl rfl rfl ?_
    rfl
  · show mm_W _ _ 148 (mm_blk 148 0) [.int (vb_i 15)] [] _ _
    refine mm_w1 rfl ?_
    refine mm_wts 310 (by decide +kernel) ?_
    refine mm_wv (vb_i 110) rfl (by decide) ?_
    refine mm_wv (vb_i 111) rfl (by decide) ?_
    refine mm_wv (vb_i 116) rfl (by decide) ?_
    refine mm_wv (vb_i 0) rfl (by decide) ?_
    refine mm_wv (vb_i 0) rfl (by decide) ?_
    refine mm_wv (vb_i 0) rfl (by decide) ?_
    refine mm_wv (vb_i 0) rfl (by decide) ?_
    refine mm_csp rfl (by decide) (by omega) m_sp15 ?_
    refine mm_wr rfl rfl rfl ?_
    rfl
def nt_kw (b : Nat → Int32) (s : Nat) : Int32 := if tx_w b s < 16 then vb_i (tx_w b s) else -1
theorem nt_kwz {b : Nat → Int32} {s : Nat} (h : tx_w b s = 16) : nt_kw b s = -1 := if_neg (by omega)
theorem nt_cmp {x y : Int64} : (lg_cmp x y = 0) ↔ x = y := by
  unfold lg_cmp
  constructor
  · intro h
    split at h
    · exact absurd h (by decide)
    · split at h
      · assumption
      · exact absurd h (by decide)
  · intro h
    subst h
    have : ¬ x > x := fun h => by have := Int64.lt_iff_toInt_lt.mp h; omega
    rw [if_neg this, if_pos rfl]
theorem tx_w_le (b : Nat → Int32) (s : Nat) : tx_w b s ≤ 16 := by
  rw [tx_w]
  cases h : (List.range 16).find? (fun k => tx_is b s (tx_wl.getD k [])) with
  | none => exact Nat.le_refl _
  | some j => have := List.mem_range.mp (List.mem_of_find?_eq_some h); show j ≤ 16; omega
theorem m_known {s : Nat} (hM : vm_isM P S) (hs : s ≤ n) (hn : n ≤ 700) (hb : tx_ok b n) (hk : nt_tk b n s I J) (hd : 2 ≤ d) : mm_Call G d 149 [.ref 60] (I, P, J, S, nc, ns) (.inl (some (.int (nt_kw b s))), (I, P, J, S, nc, ns)) := by
  refine mm_C.call ?_
  obtain ⟨h16, h18, h19, h17, h20, h21, hJ⟩ := hk
  have hE := tx_E_n hb hs
  have hkd := tx_kd_le (b s)
  have hso : nt_so (tx_kd (b s)) ≤ 4 := by rw [nt_so]; (repeat' split) <;> decide
  by_cases hw : tx_kd (b s) = 1 ∧ tx_E b s - s ≤ 7
  · have hJ := hJ hw.1
    rw [show min (tx_E b s - s) 7 = tx_E b s - s by omega] at hJ
    have loop : ∀ i, i ≤ 16 → i ≤ tx_w b s → mm_W G d 149 (mm_blk 149 21) [.ref 60, .int (vb_i i)] [] (I, P, J, S, nc, ns) (fun r => r = (.inl (some (.int (nt_kw b s))), (I, P, J, S, nc, ns))) := by
      refine vb_down 16 ?_
      intro i hi ih hle
      refine mm_w1 rfl ?_
      refine mm_wv (vb_i 16) rfl (by decide) ?_
      refine mm_nicge (by omega) (by omega) ?_ ?_
      · intro h24
        refine mm_wv (-1) rfl (by decide) ?_
        refine mm_wr rfl rfl rfl ?_
        have := tx_w_le b s
        rw [nt_kwz (by omega)]
      · intro h24
        refine mm_w1 rfl ?_
        refine mm_csp rfl (by decide) (by omega) (m_letters (by omega) (by omega)) ?_
        refine mm_w1 rfl ?_
        refine mm_wgl (vM_S60 hM) (by decide) (by decide) ?_
        refine mm_w1 rfl ?_
        refine mm_wifne ?_ ?_
        · intro h36
          refine mm_nincL (ls' := [_, _]) 1 rfl (by decide) rfl ?_
          refine mm_wgoto ?_
          refine ih (by omega) ?_
          have : ¬ tx_w b s = i := fun e => h36 (nt_cmp.mpr (((nt_word (by omega) hw.1 hw.2).mpr e).trans hJ.symm))
          omega
        · intro h36
          refine mm_w1 rfl ?_
          refine mm_wr rfl rfl rfl ?_
          have e := (nt_word (by omega) hw.1 hw.2).mp ((nt_cmp.mp h36).trans hJ)
          rw [nt_kw, if_pos (by omega), e]
    show mm_W _ _ 149 (mm_blk 149 0) [.ref 60, .null] [] _ _
    refine mm_w1 rfl ?_
    refine mm_wgiv _ (vM_S60 hM) (by decide) (by decide) h17 ?_
    refine mm_wv (vb_i 1) rfl (by decide) ?_
    refine mm_nicne (by omega) (by omega) ?_ ?_
    · intro h5
      exact absurd (show nt_so (tx_kd (b s)) = 1 by rw [hw.1]; rfl) h5
    · intro h5
      refine mm_w1 rfl ?_
      refine mm_wgiv _ (vM_S60 hM) (by decide) (by decide) h19 ?_
      refine mm_wv (vb_i 7) rfl (by decide) ?_
      refine mm_nicle (by omega) (by omega) ?_ ?_
      · intro h14
        refine mm_wv (vb_i 0) rfl (by decide) ?_
        refine mm_w1 (ls' := [_, _]) rfl ?_
        exact loop 0 (by omega) (by omega)
      · intro h14
        omega
  · have hno : ¬ tx_w b s < 16 := fun h => by
      have h1 := tx_w_len h
      have h2 := (nt_wls _ h).1
      exact hw ⟨h1.1, by omega⟩
    rw [nt_kw, if_neg hno]
    have hne : nt_so (tx_kd (b s)) = 1 → tx_kd (b s) = 1 := fun h => by
      rw [nt_so] at h
      split at h
      · cases h
      · split at h
        · assumption
        · split at h
          · cases h
          · split at h <;> cases h
    show mm_W _ _ 149 (mm_blk 149 0) [.ref 60, .null] [] _ _
    refine mm_w1 rfl ?_
    refine mm_wgiv _ (vM_S60 hM) (by decide) (by decide) h17 ?_
    refine mm_wv (vb_i 1) rfl (by decide) ?_
    refine mm_nicne (by omega) (by omega) ?_ ?_
    · intro h5
      refine mm_wv (-1) rfl (by decide) ?_
      refine mm_wr rfl rfl rfl ?_
      rfl
    · intro h5
      refine mm_w1 rfl ?_
      refine mm_wgiv _ (vM_S60 hM) (by decide) (by decide) h19 ?_
      refine mm_wv (vb_i 7) rfl (by decide) ?_
      refine mm_nicle (by omega) (by omega) ?_ ?_
      · intro h14
        exact absurd ⟨hne h5, by omega⟩ hw
      · intro h14
        refine mm_wv (-1) rfl (by decide) ?_
        refine mm_wr rfl rfl rfl ?_
        rfl
/-- what is wrong -/
theorem m_wrong0 {why pl : Nat} (hM : vm_isM P S) (h12 : I 60 12 = vb_i 0) (h18 : I 60 18 = vb_i pl) : mm_C G d 150 [.ref 60, .int (vb_i why)] (I, P, J, S, nc, ns) (vb_R none (fun I' => I' = mm_up (mm_up I 60 12 (vb_i why)) 60 13 (vb_i pl)) P J S nc ns) := by
  show mm_W _ _ 150 (mm_blk 150 0) [.ref 60, .int (vb_i why)] [] _ _
  refine mm_w1 rfl ?_
  refine mm_wgiv _ (vM_S60 hM) (by decide) (by decide) h12 ?_
  refine mm_nifeq (by omega) ?_ ?_
  · intro h4
    refine mm_w1 rfl ?_
    refine mm_w1 rfl ?_
    refine mm_wpiN (vM_S60 hM) (by decide) (by decide) ?_
    intro I1 hI1
    have h181 := (congrFun (congrFun hI1 60) 18).trans ((vb_up2 _ _ (by decide)).trans h18)
    refine mm_w1 rfl ?_
    refine mm_w1 rfl ?_
    refine mm_wgiv _ (vM_S60 hM) (by decide) (by decide) h181 ?_
    refine mm_wpiN (vM_S60 hM) (by decide) (by decide) ?_
    intro I2 hI2
    have _u := hI2
    refine mm_wr rfl rfl rfl ?_
    exact ⟨_, by rw [hI2, hI1], rfl⟩
  · intro h4
    exact absurd rfl h4
theorem m_wrong1 {f why : Nat} (hM : vm_isM P S) (h12 : I 60 12 = vb_i f) (hf : 1 ≤ f) (hf5 : f ≤ 5) : mm_Call G d 150 [.ref 60, .int (vb_i why)] (I, P, J, S, nc, ns) (.inl none, (I, P, J, S, nc, ns)) := by
  refine mm_C.call ?_
  show mm_W _ _ 150 (mm_blk 150 0) [.ref 60, .int (vb_i why)] [] _ _
  refine mm_w1 rfl ?_
  refine mm_wgiv _ (vM_S60 hM) (by decide) (by decide) h12 ?_
  refine mm_nifeq (by omega) ?_ ?_
  · intro h4
    omega
  · intro h4
    refine mm_wr rfl rfl rfl ?_
    rfl
theorem m_good {f : Nat} (hM : vm_isM P S) (h12 : I 60 12 = vb_i f) (hf5 : f ≤ 5) : mm_Call G d 151 [.ref 60] (I, P, J, S, nc, ns) (.inl (some (.int (vb_b (decide (f = 0))))), (I, P, J, S, nc, ns)) := by
  refine mm_C.call ?_
  show mm_W _ _ 151 (mm_blk 151 0) [.ref 60] [] _ _
  refine mm_w1 rfl ?_
  refine mm_wgiv _ (vM_S60 hM) (by decide) (by decide) h12 ?_
  refine mm_nifne (by omega) ?_ ?_
  · intro h4
    refine mm_wv (vb_i 0) rfl (by decide) ?_
    refine mm_wr rfl rfl rfl ?_
    first | (rw [decide_eq_true (by assumption)]; rfl) | (rw [decide_eq_false (by assumption)]; rfl)
  · intro h4
    refine mm_wv (vb_i 1) rfl (by decide) ?_
    refine mm_wgoto ?_
    refine mm_wr rfl rfl rfl ?_
    first | (rw [decide_eq_true (by assumption)]; rfl) | (rw [decide_eq_false (by assumption)]; rfl)
def nt_sg (c : Nat) : Prop := c = 59 ∨ c = 40 ∨ c = 41 ∨ c = 43 ∨ c = 45 ∨ c = 42 ∨ c = 47 ∨ c = 60 ∨ c = 61
theorem nt_sgK {b : Nat → Int32} {n s c : Nat} (hb : tx_ok b n) (hs : s ≤ n) (hc : nt_sg c) : (tx_K b s = c) ↔ (nt_so (tx_kd (b s)) = 3 ∧ nt_y b n s = vb_i c) := by
  have hc4 : 4 < c := by rcases hc with h | h | h | h | h | h | h | h | h <;> omega
  have hk : tx_kd (vb_i c) = c ∧ nt_so c = 3 ∧ c ≠ 2 := by rcases hc with h | h | h | h | h | h | h | h | h <;> subst h <;> decide
  constructor
  · intro e
    have e2 : tx_kd (b s) = c := by
      rw [tx_K] at e
      split at e
      · omega
      · exact e
    refine ⟨by rw [e2]; exact hk.2.1, ?_⟩
    have hsn : s < n := by
      have : s ≠ n := fun h => by have := (tx_kd0 hb hs).mpr h; omega
      omega
    rw [nt_y, if_pos hsn]
    simp only [tx_kd] at e2
    split at e2
    · omega
    · split at e2
      · omega
      · split at e2
        · omega
        · split at e2
          · rename_i h9
            rcases h9 with h9 | h9 | h9 | h9 | h9 | h9 | h9 | h9 | h9 <;> rw [h9] at e2 ⊢ <;> rw [← e2] <;> rfl
          · omega
  · intro ⟨h1, h2⟩
    have hsn : s < n := by
      have : s ≠ n := fun h => by
        rw [(tx_kd0 hb hs).mpr h] at h1; exact absurd h1 (by decide)
      omega
    rw [nt_y, if_pos hsn] at h2
    rw [tx_K, h2, hk.1, if_neg (fun h => hk.2.2 h.1)]
theorem m_isSign {s c : Nat} (hM : vm_isM P S) (hb : tx_ok b n) (hs : s ≤ n) (hk : nt_tk b n s I J) (hc : nt_sg c) : mm_Call G d 152 [.ref 60, .int (vb_i c)] (I, P, J, S, nc, ns) (.inl (some (.int (vb_b (decide (tx_K b s = c))))), (I, P, J, S, nc, ns)) := by
  refine mm_C.call ?_
  obtain ⟨h16, h18, h19, h17, h20, h21, hJ⟩ := hk
  have hso : nt_so (tx_kd (b s)) ≤ 4 := by rw [nt_so]; (repeat' split) <;> decide
  have hc61 : c ≤ 61 := by rcases hc with h | h | h | h | h | h | h | h | h <;> omega
  have key := nt_sgK hb hs hc
  show mm_W _ _ 152 (mm_blk 152 0) [.ref 60, .int (vb_i c)] [] _ _
  refine mm_w1 rfl ?_
  refine mm_wgiv _ (vM_S60 hM) (by decide) (by decide) h17 ?_
  refine mm_wv (vb_i 3) rfl (by decide) ?_
  refine mm_nicne (by omega) (by omega) ?_ ?_
  · intro h5
    refine mm_wv (vb_i 0) rfl (by decide) ?_
    refine mm_wr rfl rfl rfl ?_
    first
      | (rw [decide_eq_true (key.mpr ⟨h5, h13⟩)]; rfl)
      | (rw [decide_eq_false (fun e => h13 (key.mp e).2)]; rfl)
      | (rw [decide_eq_false (fun e => h5 (key.mp e).1)]; rfl)
  · intro h5
    refine mm_w1 rfl ?_
    refine mm_wgiv _ (vM_S60 hM) (by decide) (by decide) h21 ?_
    refine mm_w1 rfl ?_
    refine mm_wicne ?_ ?_
    · intro h13
      refine mm_wv (vb_i 0) rfl (by decide) ?_
      refine mm_wr rfl rfl rfl ?_
      first
        | (rw [decide_eq_true (key.mpr ⟨h5, h13⟩)]; rfl)
        | (rw [decide_eq_false (fun e => h13 (key.mp e).2)]; rfl)
        | (rw [decide_eq_false (fun e => h5 (key.mp e).1)]; rfl)
    · intro h13
      refine mm_wv (vb_i 1) rfl (by decide) ?_
      refine mm_wgoto ?_
      refine mm_wr rfl rfl rfl ?_
      first
        | (rw [decide_eq_true (key.mpr ⟨h5, h13⟩)]; rfl)
        | (rw [decide_eq_false (fun e => h13 (key.mp e).2)]; rfl)
        | (rw [decide_eq_false (fun e => h5 (key.mp e).1)]; rfl)
end NKW
