/-! THE WORLD OF THE LAW: the class's object below 60, the reference's from 60 on, the answer's long at 86 -/
def lw_rV (a : Nat) : Bool := decide (a < 60)
def lw_rM (a : Nat) : Bool := decide (60 ≤ a) && decide (a < 86)
def lw_V (σ : vb_St) (P : Nat → Nat → Nat) (S : List (Nat × Nat)) (I : Nat → Nat → Int32) : Prop := ∃ L, vb_isW P S L ∧ vb_VD σ L I
def lw_N (σ : vb_St) (P : Nat → Nat → Nat) (S : List (Nat × Nat)) (I : Nat → Nat → Int32) : Prop := vm_isM P S ∧ vm_MD σ I
def lw_C (P : Nat → Nat → Nat) (S : List (Nat × Nat)) : Prop := mm_cfP lw_rV P ∧ mm_cfP lw_rM P ∧ S.length = 87 ∧ S[86]? = some (102, 1)
section LW1
variable {G : mm_G} {d : Nat} {I : Nat → Nat → Int32} {P : Nat → Nat → Nat} {J : Nat → Nat → Int64} {S : List (Nat × Nat)} {nc ns : Nat} {σ τ : vb_St}
variable {I' : Nat → Nat → Int32} {P' : Nat → Nat → Nat}
theorem lw_V.out (h : lw_V σ P S I) (hI : ∀ a, a < 60 → I' a = I a) (hP : ∀ a, a < 60 → P' a = P a) : lw_V σ P' S I' := by
  obtain ⟨L, hW, h⟩ := h
  have hL := vV_L17 hW.1
  have hf : vb_fr (fun a => 60 ≤ a) I I' := fun a ha => hI a (by omega)
  refine ⟨L, ?_, ?_⟩
  · obtain ⟨⟨h1, h2, h3, h4, h5, h6, h7, h8, h9, h10, h11⟩, k1, k2, k3⟩ := hW
    exact ⟨⟨h1, by rw [hP 0 (by decide)]; exact h2, h3.cg (hP _ (by omega)) (hP _ (by omega)), h4.cg (hP _ (by decide)), h5.cg (hP _ (by decide)), h6.cg (hP _ (by decide)), h7.cg (hP _ (by decide)), h8.cg (hP _ (by decide)), h9.cg (hP _ (by decide)), h10.cg (hP _ (by decide)), h11.cg (hP _ (by decide))⟩, k1, by rw [hP 3 (by decide)]; exact k2, k3.cg (hP _ (by omega)) (hP _ (by omega))⟩
  · obtain ⟨h1, h2, h3, h4, h5, h6, h7, h8, h9, h10, h11⟩ := h
    have e0 := hI 0 (by omega)
    have e1 := hI 1 (by omega)
    have e2 := hI 2 (by omega)
    exact ⟨h1.kp hf (fun j a b => by omega), h2.fr hf (fun j a b => by omega), h3.fr hf (fun j a b => by omega), h4.fr hf (fun j a b => by omega), by rw [e0]; exact h5, h6.fr hf (fun a b c d => by omega), by rw [e0]; exact h7, h8, by rw [e1]; exact h9, by rw [e0]; exact h10, by rw [e2]; exact h11⟩
theorem lw_N.out (h : lw_N σ P S I) (hI : ∀ a, 60 ≤ a → a < 86 → I' a = I a) (hP : P' 60 = P 60) : lw_N σ P' S I' := by
  obtain ⟨hM, g⟩ := h
  refine ⟨by simp only [vm_isM, hP]; exact hM, ?_⟩
  obtain ⟨g1, g2, g3, g4, g5, g6, g7, g8, g9, g10, g11, g12, g13⟩ := g
  have e60 := hI 60 (by decide) (by decide)
  refine ⟨g1.k2 (fun s h1 h2 => by rw [e60]) (fun a h1 h2 => hI a (by omega) (by omega)), ?_, ?_, ?_, ?_, ?_, ?_, ?_, ?_, g10, ?_, ?_, ?_⟩
  · rw [hI 76 (by decide) (by decide)]; exact g2
  · rw [e60]; exact g3
  · rw [hI 77 (by decide) (by decide)]; exact g4
  · rw [e60]; exact g5
  · rw [hI 81 (by decide) (by decide)]; exact g6
  · rw [e60]; exact g7
  · intro z hz
    rw [e60, hI 83 (by decide) (by decide), hI 84 (by decide) (by decide), hI 85 (by decide) (by decide)]
    exact g8 z hz
  · rw [e60]; exact g9
  · rw [hI 66 (by decide) (by decide)]; exact g11
  · rw [e60]; exact g12
  · rw [hI 67 (by decide) (by decide)]; exact g13
theorem lw_rV0 {a : Nat} (h : 60 ≤ a) : lw_rV a = false := decide_eq_false (by omega)
theorem lw_rM0 {a : Nat} (h : a < 60 ∨ 86 ≤ a) : lw_rM a = false := by
  rw [lw_rM, Bool.and_eq_false_iff]
  rcases h with h | h
  · exact Or.inl (decide_eq_false (by omega))
  · exact Or.inr (decide_eq_false (by omega))
theorem lw_rM1 {a : Nat} (h : lw_rM a = true) : 60 ≤ a ∧ a < 86 := by
  simp only [lw_rM, Bool.and_eq_true, decide_eq_true_eq] at h; exact h
theorem lw_rV1 {a : Nat} (h : lw_rV a = true) : a < 60 := of_decide_eq_true h
theorem lw_C.v (h : lw_C P S) (h1 : mm_cfP lw_rV P') (hP : ∀ a, 60 ≤ a → P' a = P a) : lw_C P' S := ⟨h1, fun a i ha => by rw [hP a (lw_rM1 ha).1]; exact h.2.1 a i ha, h.2.2⟩
theorem lw_C.m (h : lw_C P S) (h1 : mm_cfP lw_rM P') (hP : ∀ a, a < 60 → P' a = P a) : lw_C P' S := ⟨fun a i ha => by rw [hP a (lw_rV1 ha)]; exact h.1 a i ha, h1, h.2.2⟩
def lw_q (o : Option Value ⊕ Nat) (σ' : vb_St) (S : List (Nat × Nat)) (nc ns : Nat) : mm_R → Prop := fun r => ∃ I' P' J' nc' ns', r = (o, (I', P', J', S, nc', ns')) ∧ nc' ≤ nc + 1 ∧ ns' ≤ ns + 6 ∧ lw_V σ' P' S I'
def lw_RV (o : Option Value ⊕ Nat) (σ' σ : vb_St) (S : List (Nat × Nat)) (nc ns : Nat) : mm_R → Prop := fun r => ∃ I' P' J' nc' ns', r = (o, (I', P', J', S, nc', ns')) ∧ nc' ≤ nc + 1 ∧ ns' ≤ ns + 6 ∧ lw_V σ' P' S I' ∧ lw_N σ P' S I' ∧ lw_C P' S
def lw_o (o : Int32 ⊕ Nat) : Option Value ⊕ Nat := match o with
  | .inl z => .inl (some (.int z))
  | .inr E => .inr E
theorem lw_v {k : Nat} {σ' : vb_St} {o : Option Value ⊕ Nat} {args : List Value} {Q : mm_R → Prop} (hN : lw_N σ P S I) (hC : lw_C P S) (hk : mm_KV k = true) (ha : args.all (mm_okR lw_rV) = true) (hc : mm_C G d k args (I, P, J, S, nc, ns) Q) (hQ : ∀ r, Q r → lw_q o σ' S nc ns r) : mm_C G d k args (I, P, J, S, nc, ns) (lw_RV o σ' σ S nc ns) := by
  obtain ⟨r, ⟨n, hr⟩, hq⟩ := hc
  refine ⟨r, ⟨n, hr⟩, ?_⟩
  have hf := (mm_run_cf G (R := lw_rV) mm_KV_ok n d k _ _ _ _ r hr hk (mm_KV_ok k hk 0) (mm_all_ent _ ha) rfl hC.1 (by show S.length ≤ 1000; rw [hC.2.2.1]; decide)).1
  obtain ⟨I', P', J', nc', ns', e, h1, h2, h3⟩ := hQ r hq
  subst e
  obtain ⟨f1, f2, f3⟩ := hf
  exact ⟨I', P', J', nc', ns', rfl, h1, h2, h3, hN.out (fun a h _ => (f1 a (lw_rV0 h)).1) (f1 60 (lw_rV0 (by decide))).2.1, hC.v f2 (fun a h => (f1 a (lw_rV0 h)).2.1)⟩
theorem lw_qa {σ' : vb_St} {o : Int32 ⊕ Nat} {Φ : (Nat → Nat → Int32) → Prop} {r : mm_R} (h : vb_RV o Φ P J S nc ns r) (hΦ : ∀ I', Φ I' → lw_V σ' P S I') : lw_q (lw_o o) σ' S nc ns r := by
  cases o with
  | inl z =>
    obtain ⟨I', h1, h2⟩ := h
    exact ⟨I', P, J, nc, ns, h2, by omega, by omega, hΦ I' h1⟩
  | inr E =>
    obtain ⟨I', h1, h2⟩ := h
    exact ⟨I', P, J, nc + 1, ns + 6, h2, by omega, by omega, hΦ I' h1⟩
theorem lw_q0 {σ' : vb_St} {Φ : (Nat → Nat → Int32) → Prop} {r : mm_R} (h : vb_R none Φ P J S nc ns r) (hΦ : ∀ I', Φ I' → lw_V σ' P S I') : lw_q (.inl none) σ' S nc ns r := by
  obtain ⟨I', h1, h2⟩ := h
  exact ⟨I', P, J, nc, ns, h2, by omega, by omega, hΦ I' h1⟩
theorem lw_qb {σ' : vb_St} {o : Int32 ⊕ Nat} {r : mm_R} (h : vb_RB o σ' J S nc ns r) : lw_q (lw_o o) σ' S nc ns r := by
  obtain ⟨I', P', L', h1, h2, h3⟩ := h
  cases o with
  | inl z => exact ⟨I', P', J, nc, ns, h3, by omega, by omega, L', h1, h2⟩
  | inr E => exact ⟨I', P', J, nc + 1, ns + 6, h3, by omega, by omega, L', h1, h2⟩
/-- the reference -/
def lw_m (o : Int32 ⊕ Nat) (e : Nat → Nat) (z : Int32) (t : Int32) : Prop := match o with
  | .inl w => z = w ∧ t = vb_i 0
  | .inr E => t = vb_i (e E)
def lw_RN (o : Int32 ⊕ Nat) (e : Nat → Nat) (σ' τ : vb_St) (J : Nat → Nat → Int64) (S : List (Nat × Nat)) (nc ns : Nat) : mm_R → Prop := fun r => ∃ z I' P' J', r = (.inl (some (.int z)), (I', P', J', S, nc, ns)) ∧ J' 86 = J 86 ∧ lw_V τ P' S I' ∧ lw_N σ' P' S I' ∧ lw_C P' S ∧ lw_m o e z (I' 60 0)
def lw_RN0 (σ' τ : vb_St) (J : Nat → Nat → Int64) (S : List (Nat × Nat)) (nc ns : Nat) : mm_R → Prop := fun r => ∃ I' P' J', r = (.inl none, (I', P', J', S, nc, ns)) ∧ J' 86 = J 86 ∧ lw_V τ P' S I' ∧ lw_N σ' P' S I' ∧ lw_C P' S
theorem lw_n0 {k : Nat} {args : List Value} {r : mm_R} {n : Nat} (hV : lw_V τ P S I) (hC : lw_C P S) (hk : mm_KM k = true) (ha : args.all (mm_okR lw_rM) = true) (hr : mm_run G n d k (mm_blk k 0) (mm_ent (mm_mx k) args) [] (I, P, J, S, nc, ns) = some r) : r.2.2.2.1 86 = J 86 ∧ lw_V τ r.2.2.1 S r.2.1 ∧ lw_C r.2.2.1 S := by
  have hf := (mm_run_cf G (R := lw_rM) mm_KM_ok n d k _ _ _ _ r hr hk (mm_KM_ok k hk 0) (mm_all_ent _ ha) rfl hC.2.1 (by show S.length ≤ 1000; rw [hC.2.2.1]; decide)).1
  obtain ⟨f1, f2, f3⟩ := hf
  exact ⟨(f1 86 (lw_rM0 (Or.inr (by decide)))).2.2, hV.out (fun a h => (f1 a (lw_rM0 (Or.inl h))).1) (fun a h => (f1 a (lw_rM0 (Or.inl h))).2.1), hC.m f2 (fun a h => (f1 a (lw_rM0 (Or.inl h))).2.1)⟩
theorem lw_n {k : Nat} {σ' : vb_St} {o : Int32 ⊕ Nat} {args : List Value} {Φ : (Nat → Nat → Int32) → Prop} (hV : lw_V τ P S I) (hM : vm_isM P S) (hC : lw_C P S) (hk : mm_KM k = true) (ha : args.all (mm_okR lw_rM) = true) (hc : mm_C G d k args (I, P, J, S, nc, ns) (vm_RV o Φ P J S nc ns)) (hQ : ∀ I', Φ I' → vm_MD σ' I') : mm_C G d k args (I, P, J, S, nc, ns) (lw_RN o (fun E => E + 1) σ' τ J S nc ns) := by
  obtain ⟨r, ⟨n, hr⟩, v, I', e, h1, h2⟩ := hc
  refine ⟨r, ⟨n, hr⟩, ?_⟩
  have hf := lw_n0 hV hC hk ha hr
  subst e
  refine ⟨v, I', P, J, rfl, hf.1, hf.2.1, ⟨hM, hQ I' h1⟩, hf.2.2, ?_⟩
  cases o with
  | inl w => exact h2
  | inr E => exact h2
theorem lw_nB {k : Nat} {σ' : vb_St} {o : Int32 ⊕ Nat} {args : List Value} (hV : lw_V τ P S I) (hM : vm_isM P S) (hC : lw_C P S) (hk : mm_KM k = true) (ha : args.all (mm_okR lw_rM) = true) (hc : mm_C G d k args (I, P, J, S, nc, ns) (nm_RB o σ' P S nc ns)) : mm_C G d k args (I, P, J, S, nc, ns) (lw_RN o (fun _ => 1) σ' τ J S nc ns) := by
  obtain ⟨r, ⟨n, hr⟩, v, I', J', e, h1, h2⟩ := hc
  refine ⟨r, ⟨n, hr⟩, ?_⟩
  have hf := lw_n0 hV hC hk ha hr
  subst e
  refine ⟨v, I', P, J', rfl, hf.1, hf.2.1, ⟨hM, h1⟩, hf.2.2, ?_⟩
  cases o with
  | inl w => exact h2
  | inr E => exact h2
theorem lw_nn {k : Nat} {σ' : vb_St} {args : List Value} {Φ : (Nat → Nat → Int32) → Prop} (hV : lw_V τ P S I) (hM : vm_isM P S) (hC : lw_C P S) (hk : mm_KM k = true) (ha : args.all (mm_okR lw_rM) = true) (hc : mm_C G d k args (I, P, J, S, nc, ns) (vb_R none Φ P J S nc ns)) (hQ : ∀ I', Φ I' → vm_MD σ' I') : mm_C G d k args (I, P, J, S, nc, ns) (lw_RN0 σ' τ J S nc ns) := by
  obtain ⟨r, ⟨n, hr⟩, I', h1, e⟩ := hc
  refine ⟨r, ⟨n, hr⟩, ?_⟩
  have hf := lw_n0 hV hC hk ha hr
  subst e
  exact ⟨I', P, J, rfl, hf.1, hf.2.1, ⟨hM, hQ I' h1⟩, hf.2.2⟩
theorem vc_fault (hV : lw_V σ P S I) (hN : lw_N σ P S I) (hC : lw_C P S) (hI : lw_I σ) (hd : 75 ≤ d) : mm_C G d 78 [.ref 0] (I, P, J, S, nc, ns) (lw_RV (lw_o (sp_fault σ)) σ σ S nc ns) := by
  obtain ⟨L, hW, dV⟩ := hV
  exact lw_v hN hC rfl rfl (v_fault hW.1 dV (by omega)) (fun r hr => lw_qa hr (fun I' h => ⟨L, hW, dV.fr (vV_L17 hW.1) h⟩))
theorem nc_fault (hV : lw_V τ P S I) (hN : lw_N σ P S I) (hC : lw_C P S) (hI : lw_I σ) (hd : 75 ≤ d) : mm_C G d 171 [.ref 60] (I, P, J, S, nc, ns) (lw_RN (sp_fault σ) (fun E => E + 1) σ τ J S nc ns) :=
  lw_n hV hN.1 hC rfl rfl (n_fault hN.1 hN.2 hI.1 hI.2.1 (by omega)) (fun I' h => hN.2.qf h)
theorem vc_count (hV : lw_V σ P S I) (hN : lw_N σ P S I) (hC : lw_C P S) (hI : lw_I σ) (hd : 75 ≤ d) (x1 : Int32) : mm_C G d 79 [.ref 0, .int x1] (I, P, J, S, nc, ns) (lw_RV (lw_o (sp_count σ x1)) σ σ S nc ns) := by
  obtain ⟨L, hW, dV⟩ := hV
  exact lw_v hN hC rfl rfl (v_count hW.1 dV (by omega) x1) (fun r hr => lw_qa hr (fun I' h => ⟨L, hW, dV.fr (vV_L17 hW.1) h⟩))
theorem nc_count (hV : lw_V τ P S I) (hN : lw_N σ P S I) (hC : lw_C P S) (hI : lw_I σ) (hd : 75 ≤ d) (x1 : Int32) : mm_C G d 193 [.ref 60, .int x1] (I, P, J, S, nc, ns) (lw_RN (sp_count σ x1) (fun E => E + 1) σ τ J S nc ns) :=
  lw_n hV hN.1 hC rfl rfl (n_count hN.1 hN.2 hI.1 hI.2.1 (by omega) x1) (fun I' h => hN.2.qf h)
theorem vc_village (hV : lw_V σ P S I) (hN : lw_N σ P S I) (hC : lw_C P S) (hI : lw_I σ) (hd : 75 ≤ d) (x1 x2 : Int32) : mm_C G d 80 [.ref 0, .int x1, .int x2] (I, P, J, S, nc, ns) (lw_RV (lw_o (sp_village σ x1 x2)) σ σ S nc ns) := by
  obtain ⟨L, hW, dV⟩ := hV
  exact lw_v hN hC rfl rfl (v_village hW.1 dV (by omega) x1 x2) (fun r hr => lw_qa hr (fun I' h => ⟨L, hW, dV.fr (vV_L17 hW.1) h⟩))
theorem nc_village (hV : lw_V τ P S I) (hN : lw_N σ P S I) (hC : lw_C P S) (hI : lw_I σ) (hd : 75 ≤ d) (x1 x2 : Int32) : mm_C G d 198 [.ref 60, .int x1, .int x2] (I, P, J, S, nc, ns) (lw_RN (sp_village σ x1 x2) (fun E => E + 1) σ τ J S nc ns) :=
  lw_n hV hN.1 hC rfl rfl (n_village hN.1 hN.2 hI.1 hI.2.1 (by omega) x1 x2) (fun I' h => hN.2.qf h)
theorem vc_side (hV : lw_V σ P S I) (hN : lw_N σ P S I) (hC : lw_C P S) (hI : lw_I σ) (hd : 75 ≤ d) (x1 x2 : Int32) : mm_C G d 81 [.ref 0, .int x1, .int x2] (I, P, J, S, nc, ns) (lw_RV (lw_o (sp_side σ x1 x2)) σ σ S nc ns) := by
  obtain ⟨L, hW, dV⟩ := hV
  exact lw_v hN hC rfl rfl (v_side hW.1 dV (by omega) x1 x2) (fun r hr => lw_qa hr (fun I' h => ⟨L, hW, dV.fr (vV_L17 hW.1) h⟩))
theorem nc_side (hV : lw_V τ P S I) (hN : lw_N σ P S I) (hC : lw_C P S) (hI : lw_I σ) (hd : 75 ≤ d) (x1 x2 : Int32) : mm_C G d 200 [.ref 60, .int x1, .int x2] (I, P, J, S, nc, ns) (lw_RN (sp_side σ x1 x2) (fun E => E + 1) σ τ J S nc ns) :=
  lw_n hV hN.1 hC rfl rfl (n_side hN.1 hN.2 hI.1 hI.2.1 (by omega) x1 x2) (fun I' h => hN.2.qf h)
theorem vc_road (hV : lw_V σ P S I) (hN : lw_N σ P S I) (hC : lw_C P S) (hI : lw_I σ) (hd : 75 ≤ d) (x1 x2 : Int32) : mm_C G d 82 [.ref 0, .int x1, .int x2] (I, P, J, S, nc, ns) (lw_RV (lw_o (sp_road σ x1 x2)) σ σ S nc ns) := by
  obtain ⟨L, hW, dV⟩ := hV
  exact lw_v hN hC rfl rfl (v_road hW.1 dV (by omega) x1 x2) (fun r hr => lw_qa hr (fun I' h => ⟨L, hW, dV.fr (vV_L17 hW.1) h⟩))
theorem nc_road (hV : lw_V τ P S I) (hN : lw_N σ P S I) (hC : lw_C P S) (hI : lw_I σ) (hd : 75 ≤ d) (x1 x2 : Int32) : mm_C G d 201 [.ref 60, .int x1, .int x2] (I, P, J, S, nc, ns) (lw_RN (sp_road σ x1 x2) (fun E => E + 1) σ τ J S nc ns) :=
  lw_n hV hN.1 hC rfl rfl (n_road hN.1 hN.2 hI.1 hI.2.1 (by omega) x1 x2) (fun I' h => hN.2.qf h)
theorem vc_lawful (hV : lw_V σ P S I) (hN : lw_N σ P S I) (hC : lw_C P S) (hI : lw_I σ) (hd : 75 ≤ d) (x1 x2 : Int32) : mm_C G d 83 [.ref 0, .int x1, .int x2] (I, P, J, S, nc, ns) (lw_RV (lw_o (sp_lawful σ x1 x2)) σ σ S nc ns) := by
  obtain ⟨L, hW, dV⟩ := hV
  exact lw_v hN hC rfl rfl (v_lawful hW.1 dV (by omega) x1 x2) (fun r hr => lw_qa hr (fun I' h => ⟨L, hW, dV.fr (vV_L17 hW.1) h⟩))
theorem nc_lawful (hV : lw_V τ P S I) (hN : lw_N σ P S I) (hC : lw_C P S) (hI : lw_I σ) (hd : 75 ≤ d) (x1 x2 : Int32) : mm_C G d 202 [.ref 60, .int x1, .int x2] (I, P, J, S, nc, ns) (lw_RN (sp_lawful σ x1 x2) (fun E => E + 1) σ τ J S nc ns) :=
  lw_n hV hN.1 hC rfl rfl (n_lawful hN.1 hN.2 hI.1 hI.2.1 (by omega) x1 x2) (fun I' h => hN.2.qf h)
theorem vc_hangs (hV : lw_V σ P S I) (hN : lw_N σ P S I) (hC : lw_C P S) (hI : lw_I σ) (hd : 75 ≤ d) (x1 : Int32) : mm_C G d 90 [.ref 0, .int x1] (I, P, J, S, nc, ns) (lw_RV (lw_o (sp_hangs σ x1)) σ σ S nc ns) := by
  obtain ⟨L, hW, dV⟩ := hV
  exact lw_v hN hC rfl rfl (v_hangs hW.1 dV (by omega) x1) (fun r hr => lw_qa hr (fun I' h => ⟨L, hW, dV.fr (vV_L17 hW.1) h⟩))
theorem nc_hangs (hV : lw_V τ P S I) (hN : lw_N σ P S I) (hC : lw_C P S) (hI : lw_I σ) (hd : 75 ≤ d) (x1 : Int32) : mm_C G d 208 [.ref 60, .int x1] (I, P, J, S, nc, ns) (lw_RN (sp_hangs σ x1) (fun E => E + 1) σ τ J S nc ns) :=
  lw_n hV hN.1 hC rfl rfl (n_hangs hN.1 hN.2 hI.1 hI.2.1 (by omega) x1) (fun I' h => hN.2.qf h)
theorem vc_look (hV : lw_V σ P S I) (hN : lw_N σ P S I) (hC : lw_C P S) (hI : lw_I σ) (hd : 75 ≤ d) (x1 x2 : Int32) : mm_C G d 91 [.ref 0, .int x1, .int x2] (I, P, J, S, nc, ns) (lw_RV (lw_o (sp_look σ x1 x2)) σ σ S nc ns) := by
  obtain ⟨L, hW, dV⟩ := hV
  exact lw_v hN hC rfl rfl (v_look hW.1 dV hI.1 (by omega) x1 x2) (fun r hr => lw_qa hr (fun I' h => ⟨L, hW, dV.fr (vV_L17 hW.1) h⟩))
theorem nc_look (hV : lw_V τ P S I) (hN : lw_N σ P S I) (hC : lw_C P S) (hI : lw_I σ) (hd : 75 ≤ d) (x1 x2 : Int32) : mm_C G d 214 [.ref 60, .int x1, .int x2] (I, P, J, S, nc, ns) (lw_RN (sp_look σ x1 x2) (fun E => E + 1) σ τ J S nc ns) :=
  lw_n hV hN.1 hC rfl rfl (n_look hN.1 hN.2 hI.1 hI.2.1 (by omega) x1 x2) (fun I' h => hN.2.qf h)
theorem vc_win (hV : lw_V σ P S I) (hN : lw_N σ P S I) (hC : lw_C P S) (hI : lw_I σ) (hd : 75 ≤ d) : mm_C G d 92 [.ref 0] (I, P, J, S, nc, ns) (lw_RV (lw_o (sp_win σ)) σ σ S nc ns) := by
  obtain ⟨L, hW, dV⟩ := hV
  exact lw_v hN hC rfl rfl (v_win hW.1 dV hI.1 (by omega)) (fun r hr => lw_qa hr (fun I' h => ⟨L, hW, dV.fr (vV_L17 hW.1) h⟩))
theorem nc_win (hV : lw_V τ P S I) (hN : lw_N σ P S I) (hC : lw_C P S) (hI : lw_I σ) (hd : 75 ≤ d) : mm_C G d 217 [.ref 60] (I, P, J, S, nc, ns) (lw_RN (sp_win σ) (fun E => E + 1) σ τ J S nc ns) :=
  lw_n hV hN.1 hC rfl rfl (n_win hN.1 hN.2 hI.1 hI.2.1 (by omega)) (fun I' h => hN.2.qf h)
theorem vc_journey (hV : lw_V σ P S I) (hN : lw_N σ P S I) (hC : lw_C P S) (hI : lw_I σ) (hd : 75 ≤ d) (x1 x2 : Int32) : mm_C G d 93 [.ref 0, .int x1, .int x2] (I, P, J, S, nc, ns) (lw_RV (lw_o (sp_journey σ x1 x2)) σ σ S nc ns) := by
  obtain ⟨L, hW, dV⟩ := hV
  exact lw_v hN hC rfl rfl (v_journey hW.1 dV (by omega) x1 x2) (fun r hr => lw_qa hr (fun I' h => ⟨L, hW, dV.fr (vV_L17 hW.1) h⟩))
theorem nc_journey (hV : lw_V τ P S I) (hN : lw_N σ P S I) (hC : lw_C P S) (hI : lw_I σ) (hd : 75 ≤ d) (x1 x2 : Int32) : mm_C G d 219 [.ref 60, .int x1, .int x2] (I, P, J, S, nc, ns) (lw_RN (sp_journey σ x1 x2) (fun E => E + 1) σ τ J S nc ns) :=
  lw_n hV hN.1 hC rfl rfl (n_journey hN.1 hN.2 hI.1 hI.2.1 (by omega) x1 x2) (fun I' h => hN.2.qf h)
theorem vc_played (hV : lw_V σ P S I) (hN : lw_N σ P S I) (hC : lw_C P S) (hI : lw_I σ) (hd : 75 ≤ d) (x1 : Int32) : mm_C G d 94 [.ref 0, .int x1] (I, P, J, S, nc, ns) (lw_RV (lw_o (sp_played σ x1)) σ σ S nc ns) := by
  obtain ⟨L, hW, dV⟩ := hV
  exact lw_v hN hC rfl rfl (v_played hW.1 dV hI.1 (by omega) x1) (fun r hr => lw_qa hr (fun I' h => ⟨L, hW, dV.fr (vV_L17 hW.1) h⟩))
theorem nc_played (hV : lw_V τ P S I) (hN : lw_N σ P S I) (hC : lw_C P S) (hI : lw_I σ) (hd : 75 ≤ d) (x1 : Int32) : mm_C G d 221 [.ref 60, .int x1] (I, P, J, S, nc, ns) (lw_RN (sp_played σ x1) (fun E => E + 1) σ τ J S nc ns) :=
  lw_n hV hN.1 hC rfl rfl (n_played hN.1 hN.2 hI.1 hI.2.1 (by omega) x1) (fun I' h => hN.2.qf h)
theorem vc_turned (hV : lw_V σ P S I) (hN : lw_N σ P S I) (hC : lw_C P S) (hI : lw_I σ) (hd : 75 ≤ d) (x1 : Int32) : mm_C G d 95 [.ref 0, .int x1] (I, P, J, S, nc, ns) (lw_RV (lw_o (sp_turned σ x1)) σ σ S nc ns) := by
  obtain ⟨L, hW, dV⟩ := hV
  exact lw_v hN hC rfl rfl (v_turned hW.1 dV hI.1 (by omega) x1) (fun r hr => lw_qa hr (fun I' h => ⟨L, hW, dV.fr (vV_L17 hW.1) h⟩))
theorem nc_turned (hV : lw_V τ P S I) (hN : lw_N σ P S I) (hC : lw_C P S) (hI : lw_I σ) (hd : 75 ≤ d) (x1 : Int32) : mm_C G d 222 [.ref 60, .int x1] (I, P, J, S, nc, ns) (lw_RN (sp_turned σ x1) (fun E => E + 1) σ τ J S nc ns) :=
  lw_n hV hN.1 hC rfl rfl (n_turned hN.1 hN.2 hI.1 hI.2.1 (by omega) x1) (fun I' h => hN.2.qf h)
theorem vc_treasury (hV : lw_V σ P S I) (hN : lw_N σ P S I) (hC : lw_C P S) (hI : lw_I σ) (hd : 75 ≤ d) (x1 x2 : Int32) : mm_C G d 96 [.ref 0, .int x1, .int x2] (I, P, J, S, nc, ns) (lw_RV (lw_o (sp_treasury σ x1 x2)) σ σ S nc ns) := by
  obtain ⟨L, hW, dV⟩ := hV
  exact lw_v hN hC rfl rfl (v_treasury hW.1 dV hI.1 (by omega) x1 x2) (fun r hr => lw_qa hr (fun I' h => ⟨L, hW, dV.fr (vV_L17 hW.1) h⟩))
theorem nc_treasury (hV : lw_V τ P S I) (hN : lw_N σ P S I) (hC : lw_C P S) (hI : lw_I σ) (hd : 75 ≤ d) (x1 x2 : Int32) : mm_C G d 223 [.ref 60, .int x1, .int x2] (I, P, J, S, nc, ns) (lw_RN (sp_treasury σ x1 x2) (fun E => E + 1) σ τ J S nc ns) :=
  lw_n hV hN.1 hC rfl rfl (n_treasury hN.1 hN.2 hI.1 hI.2.1 (by omega) x1 x2) (fun I' h => hN.2.qf h)
theorem vc_gift (hV : lw_V σ P S I) (hN : lw_N σ P S I) (hC : lw_C P S) (hI : lw_I σ) (hd : 75 ≤ d) (x1 x2 : Int32) : mm_C G d 97 [.ref 0, .int x1, .int x2] (I, P, J, S, nc, ns) (lw_RV (lw_o (sp_gift σ x1 x2)) σ σ S nc ns) := by
  obtain ⟨L, hW, dV⟩ := hV
  exact lw_v hN hC rfl rfl (v_gift hW.1 dV hI.1 (by omega) x1 x2) (fun r hr => lw_qa hr (fun I' h => ⟨L, hW, dV.fr (vV_L17 hW.1) h⟩))
theorem nc_gift (hV : lw_V τ P S I) (hN : lw_N σ P S I) (hC : lw_C P S) (hI : lw_I σ) (hd : 75 ≤ d) (x1 x2 : Int32) : mm_C G d 224 [.ref 60, .int x1, .int x2] (I, P, J, S, nc, ns) (lw_RN (sp_gift σ x1 x2) (fun E => E + 1) σ τ J S nc ns) :=
  lw_n hV hN.1 hC rfl rfl (n_gift hN.1 hN.2 hI.1 hI.2.1 (by omega) x1 x2) (fun I' h => hN.2.qf h)
theorem vc_plant (hV : lw_V σ P S I) (hN : lw_N σ P S I) (hC : lw_C P S) (hI : lw_I σ) (hd : 75 ≤ d) (x1 x2 : Int32) : mm_C G d 98 [.ref 0, .int x1, .int x2] (I, P, J, S, nc, ns) (lw_RV (lw_o (sp_plant σ x1 x2)) σ σ S nc ns) := by
  obtain ⟨L, hW, dV⟩ := hV
  exact lw_v hN hC rfl rfl (v_plant hW.1 dV (by omega) x1 x2) (fun r hr => lw_qa hr (fun I' h => ⟨L, hW, dV.fr (vV_L17 hW.1) h⟩))
theorem nc_plant (hV : lw_V τ P S I) (hN : lw_N σ P S I) (hC : lw_C P S) (hI : lw_I σ) (hd : 75 ≤ d) (x1 x2 : Int32) : mm_C G d 225 [.ref 60, .int x1, .int x2] (I, P, J, S, nc, ns) (lw_RN (sp_plant σ x1 x2) (fun E => E + 1) σ τ J S nc ns) :=
  lw_n hV hN.1 hC rfl rfl (n_plant hN.1 hN.2 hI.1 hI.2.1 (by omega) x1 x2) (fun I' h => hN.2.qf h)
theorem vc_styles (hV : lw_V σ P S I) (hN : lw_N σ P S I) (hC : lw_C P S) (hI : lw_I σ) (hd : 75 ≤ d) (x1 : Int32) : mm_C G d 101 [.ref 0, .int x1] (I, P, J, S, nc, ns) (lw_RV (lw_o (sp_styles σ x1)) σ σ S nc ns) := by
  obtain ⟨L, hW, dV⟩ := hV
  exact lw_v hN hC rfl rfl (v_styles hW.1 dV hI.1 (by omega) x1) (fun r hr => lw_qa hr (fun I' h => ⟨L, hW, dV.fr (vV_L17 hW.1) h⟩))
theorem nc_styles (hV : lw_V τ P S I) (hN : lw_N σ P S I) (hC : lw_C P S) (hI : lw_I σ) (hd : 75 ≤ d) (x1 : Int32) : mm_C G d 229 [.ref 60, .int x1] (I, P, J, S, nc, ns) (lw_RN (sp_styles σ x1) (fun E => E + 1) σ τ J S nc ns) :=
  lw_n hV hN.1 hC rfl rfl (n_styles hN.1 hN.2 hI.1 hI.2.1 (by omega) x1) (fun I' h => hN.2.qf h)
theorem vc_next (hV : lw_V σ P S I) (hN : lw_N σ P S I) (hC : lw_C P S) (hI : lw_I σ) (hd : 75 ≤ d) (x1 : Int32) : mm_C G d 102 [.ref 0, .int x1] (I, P, J, S, nc, ns) (lw_RV (lw_o (sp_next σ x1)) σ σ S nc ns) := by
  obtain ⟨L, hW, dV⟩ := hV
  exact lw_v hN hC rfl rfl (v_next hW.1 dV hI.1 (by omega) x1) (fun r hr => lw_qa hr (fun I' h => ⟨L, hW, dV.fr (vV_L17 hW.1) h⟩))
theorem nc_next (hV : lw_V τ P S I) (hN : lw_N σ P S I) (hC : lw_C P S) (hI : lw_I σ) (hd : 75 ≤ d) (x1 : Int32) : mm_C G d 230 [.ref 60, .int x1] (I, P, J, S, nc, ns) (lw_RN (sp_next σ x1) (fun E => E + 1) σ τ J S nc ns) :=
  lw_n hV hN.1 hC rfl rfl (n_next hN.1 hN.2 hI.1 hI.2.1 (by omega) x1) (fun I' h => hN.2.qf h)
theorem vc_treaty (hV : lw_V σ P S I) (hN : lw_N σ P S I) (hC : lw_C P S) (hI : lw_I σ) (hd : 75 ≤ d) : mm_C G d 103 [.ref 0] (I, P, J, S, nc, ns) (lw_RV (lw_o (sp_treaty σ)) σ σ S nc ns) := by
  obtain ⟨L, hW, dV⟩ := hV
  exact lw_v hN hC rfl rfl (v_treaty hW.1 dV hI.1 (by omega)) (fun r hr => lw_qa hr (fun I' h => ⟨L, hW, dV.fr (vV_L17 hW.1) h⟩))
theorem nc_treaty (hV : lw_V τ P S I) (hN : lw_N σ P S I) (hC : lw_C P S) (hI : lw_I σ) (hd : 75 ≤ d) : mm_C G d 232 [.ref 60] (I, P, J, S, nc, ns) (lw_RN (sp_treaty σ) (fun E => E + 1) σ τ J S nc ns) :=
  lw_n hV hN.1 hC rfl rfl (n_treaty hN.1 hN.2 hI.1 hI.2.1 (by omega)) (fun I' h => hN.2.qf h)
theorem vc_owes (hV : lw_V σ P S I) (hN : lw_N σ P S I) (hC : lw_C P S) (hI : lw_I σ) (hd : 75 ≤ d) (x1 : Int32) : mm_C G d 109 [.ref 0, .int x1] (I, P, J, S, nc, ns) (lw_RV (lw_o (sp_owes σ x1)) σ σ S nc ns) := by
  obtain ⟨L, hW, dV⟩ := hV
  exact lw_v hN hC rfl rfl (v_owes hW.1 dV (by omega) x1) (fun r hr => lw_qa hr (fun I' h => ⟨L, hW, dV.fr (vV_L17 hW.1) h⟩))
theorem nc_owes (hV : lw_V τ P S I) (hN : lw_N σ P S I) (hC : lw_C P S) (hI : lw_I σ) (hd : 75 ≤ d) (x1 : Int32) : mm_C G d 238 [.ref 60, .int x1] (I, P, J, S, nc, ns) (lw_RN (sp_owes σ x1) (fun E => E + 1) σ τ J S nc ns) :=
  lw_n hV hN.1 hC rfl rfl (n_owes hN.1 hN.2 hI.1 hI.2.1 (by omega) x1) (fun I' h => hN.2.qf h)
theorem vc_front (hV : lw_V σ P S I) (hN : lw_N σ P S I) (hC : lw_C P S) (hI : lw_I σ) (hd : 75 ≤ d) : mm_C G d 110 [.ref 0] (I, P, J, S, nc, ns) (lw_RV (lw_o (sp_front σ)) σ σ S nc ns) := by
  obtain ⟨L, hW, dV⟩ := hV
  exact lw_v hN hC rfl rfl (v_front hW.1 dV (by omega)) (fun r hr => lw_qa hr (fun I' h => ⟨L, hW, dV.fr (vV_L17 hW.1) h⟩))
theorem nc_front (hV : lw_V τ P S I) (hN : lw_N σ P S I) (hC : lw_C P S) (hI : lw_I σ) (hd : 75 ≤ d) : mm_C G d 239 [.ref 60] (I, P, J, S, nc, ns) (lw_RN (sp_front σ) (fun E => E + 1) σ τ J S nc ns) :=
  lw_n hV hN.1 hC rfl rfl (n_front hN.1 hN.2 hI.1 hI.2.1 (by omega)) (fun I' h => hN.2.qf h)
theorem vc_parts (hV : lw_V σ P S I) (hN : lw_N σ P S I) (hC : lw_C P S) (hI : lw_I σ) (hd : 75 ≤ d) (x1 : Int32) : mm_C G d 111 [.ref 0, .int x1] (I, P, J, S, nc, ns) (lw_RV (lw_o (sp_parts σ x1)) σ σ S nc ns) := by
  obtain ⟨L, hW, dV⟩ := hV
  exact lw_v hN hC rfl rfl (v_parts hW.1 dV (by omega) x1) (fun r hr => lw_qa hr (fun I' h => ⟨L, hW, dV.fr (vV_L17 hW.1) h⟩))
theorem nc_parts (hV : lw_V τ P S I) (hN : lw_N σ P S I) (hC : lw_C P S) (hI : lw_I σ) (hd : 75 ≤ d) (x1 : Int32) : mm_C G d 240 [.ref 60, .int x1] (I, P, J, S, nc, ns) (lw_RN (sp_parts σ x1) (fun E => E + 1) σ τ J S nc ns) :=
  lw_n hV hN.1 hC rfl rfl (n_parts hN.1 hN.2 hI.1 hI.2.1 (by omega) x1) (fun I' h => hN.2.qf h)
theorem vc_safe (hV : lw_V σ P S I) (hN : lw_N σ P S I) (hC : lw_C P S) (hI : lw_I σ) (hd : 75 ≤ d) (x1 : Int32) : mm_C G d 112 [.ref 0, .int x1] (I, P, J, S, nc, ns) (lw_RV (lw_o (sp_safe σ x1)) σ σ S nc ns) := by
  obtain ⟨L, hW, dV⟩ := hV
  exact lw_v hN hC rfl rfl (v_safe hW.1 dV (by omega) x1) (fun r hr => lw_qa hr (fun I' h => ⟨L, hW, dV.fr (vV_L17 hW.1) h⟩))
theorem nc_safe (hV : lw_V τ P S I) (hN : lw_N σ P S I) (hC : lw_C P S) (hI : lw_I σ) (hd : 75 ≤ d) (x1 : Int32) : mm_C G d 241 [.ref 60, .int x1] (I, P, J, S, nc, ns) (lw_RN (sp_safe σ x1) (fun E => E + 1) σ τ J S nc ns) :=
  lw_n hV hN.1 hC rfl rfl (n_safe hN.1 hN.2 hI.1 hI.2.1 (by omega) x1) (fun I' h => hN.2.qf h)
theorem vc_reach (hV : lw_V σ P S I) (hN : lw_N σ P S I) (hC : lw_C P S) (hI : lw_I σ) (hd : 75 ≤ d) (x1 : Int32) : mm_C G d 113 [.ref 0, .int x1] (I, P, J, S, nc, ns) (lw_RV (lw_o (sp_reach σ x1)) σ σ S nc ns) := by
  obtain ⟨L, hW, dV⟩ := hV
  exact lw_v hN hC rfl rfl (v_reach hW.1 dV (by omega) x1) (fun r hr => lw_qa hr (fun I' h => ⟨L, hW, dV.fr (vV_L17 hW.1) h⟩))
theorem nc_reach (hV : lw_V τ P S I) (hN : lw_N σ P S I) (hC : lw_C P S) (hI : lw_I σ) (hd : 75 ≤ d) (x1 : Int32) : mm_C G d 220 [.ref 60, .int x1] (I, P, J, S, nc, ns) (lw_RN (sp_reach σ x1) (fun E => E + 1) σ τ J S nc ns) :=
  lw_n hV hN.1 hC rfl rfl (n_reach hN.1 hN.2 hI.1 hI.2.1 (by omega) x1) (fun I' h => hN.2.qf h)
theorem vc_guard (hV : lw_V σ P S I) (hN : lw_N σ P S I) (hC : lw_C P S) (hI : lw_I σ) (hd : 75 ≤ d) (x1 : Int32) : mm_C G d 114 [.ref 0, .int x1] (I, P, J, S, nc, ns) (lw_RV (lw_o (sp_guard σ x1)) σ σ S nc ns) := by
  obtain ⟨L, hW, dV⟩ := hV
  exact lw_v hN hC rfl rfl (v_guard hW.1 dV (by omega) x1) (fun r hr => lw_qa hr (fun I' h => ⟨L, hW, dV.fr (vV_L17 hW.1) h⟩))
theorem nc_guard (hV : lw_V τ P S I) (hN : lw_N σ P S I) (hC : lw_C P S) (hI : lw_I σ) (hd : 75 ≤ d) (x1 : Int32) : mm_C G d 242 [.ref 60, .int x1] (I, P, J, S, nc, ns) (lw_RN (sp_guard σ x1) (fun E => E + 1) σ τ J S nc ns) :=
  lw_n hV hN.1 hC rfl rfl (n_guard hN.1 hN.2 hI.1 hI.2.1 (by omega) x1) (fun I' h => hN.2.qf h)
theorem vc_key (hV : lw_V σ P S I) (hN : lw_N σ P S I) (hC : lw_C P S) (hI : lw_I σ) (hd : 75 ≤ d) (x1 : Int32) : mm_C G d 115 [.ref 0, .int x1] (I, P, J, S, nc, ns) (lw_RV (lw_o (sp_key σ x1)) σ σ S nc ns) := by
  obtain ⟨L, hW, dV⟩ := hV
  exact lw_v hN hC rfl rfl (v_key hW.1 dV (by omega) x1) (fun r hr => lw_qa hr (fun I' h => ⟨L, hW, dV.fr (vV_L17 hW.1) h⟩))
theorem nc_key (hV : lw_V τ P S I) (hN : lw_N σ P S I) (hC : lw_C P S) (hI : lw_I σ) (hd : 75 ≤ d) (x1 : Int32) : mm_C G d 243 [.ref 60, .int x1] (I, P, J, S, nc, ns) (lw_RN (sp_key σ x1) (fun E => E + 1) σ τ J S nc ns) :=
  lw_n hV hN.1 hC rfl rfl (n_key hN.1 hN.2 hI.1 hI.2.1 (by omega) x1) (fun I' h => hN.2.qf h)
theorem vc_fork (hV : lw_V σ P S I) (hN : lw_N σ P S I) (hC : lw_C P S) (hI : lw_I σ) (hd : 75 ≤ d) : mm_C G d 116 [.ref 0] (I, P, J, S, nc, ns) (lw_RV (lw_o (sp_fork σ)) σ σ S nc ns) := by
  obtain ⟨L, hW, dV⟩ := hV
  exact lw_v hN hC rfl rfl (v_fork hW.1 dV (by omega)) (fun r hr => lw_qa hr (fun I' h => ⟨L, hW, dV.fr (vV_L17 hW.1) h⟩))
theorem nc_fork (hV : lw_V τ P S I) (hN : lw_N σ P S I) (hC : lw_C P S) (hI : lw_I σ) (hd : 75 ≤ d) : mm_C G d 244 [.ref 60] (I, P, J, S, nc, ns) (lw_RN (sp_fork σ) (fun E => E + 1) σ τ J S nc ns) :=
  lw_n hV hN.1 hC rfl rfl (n_fork hN.1 hN.2 hI.1 hI.2.1 (by omega)) (fun I' h => hN.2.qf h)
theorem vc_regret (hV : lw_V σ P S I) (hN : lw_N σ P S I) (hC : lw_C P S) (hI : lw_I σ) (hd : 75 ≤ d) (x1 x2 : Int32) : mm_C G d 118 [.ref 0, .int x1, .int x2] (I, P, J, S, nc, ns) (lw_RV (lw_o (sp_regret σ x1 x2)) σ σ S nc ns) := by
  obtain ⟨L, hW, dV⟩ := hV
  exact lw_v hN hC rfl rfl (v_regret hW.1 dV hI.1 (by omega) x1 x2) (fun r hr => lw_qa hr (fun I' h => ⟨L, hW, dV.fr (vV_L17 hW.1) h⟩))
theorem nc_regret (hV : lw_V τ P S I) (hN : lw_N σ P S I) (hC : lw_C P S) (hI : lw_I σ) (hd : 75 ≤ d) (x1 x2 : Int32) : mm_C G d 245 [.ref 60, .int x1, .int x2] (I, P, J, S, nc, ns) (lw_RN (sp_regret σ x1 x2) (fun E => E + 1) σ τ J S nc ns) :=
  lw_n hV hN.1 hC rfl rfl (n_regret hN.1 hN.2 hI.1 hI.2.1 (by omega) x1 x2) (fun I' h => hN.2.qf h)
theorem vc_whose (hV : lw_V σ P S I) (hN : lw_N σ P S I) (hC : lw_C P S) (hI : lw_I σ) (hd : 75 ≤ d) (x1 : Int32) : mm_C G d 119 [.ref 0, .int x1] (I, P, J, S, nc, ns) (lw_RV (lw_o (sp_whose σ x1)) σ σ S nc ns) := by
  obtain ⟨L, hW, dV⟩ := hV
  exact lw_v hN hC rfl rfl (v_whose hW.1 dV (by omega) x1) (fun r hr => lw_qa hr (fun I' h => ⟨L, hW, dV.fr (vV_L17 hW.1) h⟩))
theorem nc_whose (hV : lw_V τ P S I) (hN : lw_N σ P S I) (hC : lw_C P S) (hI : lw_I σ) (hd : 75 ≤ d) (x1 : Int32) : mm_C G d 246 [.ref 60, .int x1] (I, P, J, S, nc, ns) (lw_RN (sp_whose σ x1) (fun E => E + 1) σ τ J S nc ns) :=
  lw_n hV hN.1 hC rfl rfl (n_whose hN.1 hN.2 hI.1 hI.2.1 (by omega) x1) (fun I' h => hN.2.qf h)
theorem vc_years (hV : lw_V σ P S I) (hN : lw_N σ P S I) (hC : lw_C P S) (hI : lw_I σ) (hd : 75 ≤ d) (x1 x2 x3 : Int32) : mm_C G d 108 [.ref 0, .int x1, .int x2, .int x3] (I, P, J, S, nc, ns) (lw_RV (lw_o (sp_years σ x1 x2 x3)) σ σ S nc ns) := by
  obtain ⟨L, hW, dV⟩ := hV
  exact lw_v hN hC rfl rfl (v_years hW.1 dV hI.1 (by omega) x1 x2 x3) (fun r hr => lw_qa hr (fun I' h => ⟨L, hW, dV.fr (vV_L17 hW.1) h⟩))
theorem nc_years (hV : lw_V τ P S I) (hN : lw_N σ P S I) (hC : lw_C P S) (hI : lw_I σ) (hd : 75 ≤ d) (x1 x2 x3 : Int32) : mm_C G d 237 [.ref 60, .int x1, .int x2, .int x3] (I, P, J, S, nc, ns) (lw_RN (sp_years σ x1 x2 x3) (fun E => E + 1) σ τ J S nc ns) :=
  lw_n hV hN.1 hC rfl rfl (n_years hN.1 hN.2 hI.1 hI.2.1 (by omega) x1 x2 x3) (fun I' h => hN.2.qf h)
theorem vc_game (hV : lw_V σ P S I) (hN : lw_N σ P S I) (hC : lw_C P S) (hI : lw_I σ) (hd : 75 ≤ d) (x1 x2 x3 : Int32) : mm_C G d 105 [.ref 0, .int x1, .int x2, .int x3] (I, P, J, S, nc, ns) (lw_RV (lw_o (sp_game σ x1 x2 x3)) σ σ S nc ns) := by
  obtain ⟨L, hW, dV⟩ := hV
  exact lw_v hN hC rfl rfl (v_game hW.1 dV hI.1 (by omega) x1 x2 x3) (fun r hr => lw_qa hr (fun I' h => ⟨L, hW, dV.fr (vV_L17 hW.1) h⟩))
theorem nc_game (hV : lw_V τ P S I) (hN : lw_N σ P S I) (hC : lw_C P S) (hI : lw_I σ) (hd : 75 ≤ d) (x1 x2 x3 : Int32) : mm_C G d 234 [.ref 60, .int x1, .int x2, .int x3] (I, P, J, S, nc, ns) (lw_RN (sp_game σ x1 x2 x3) (fun E => E + 1) σ τ J S nc ns) :=
  lw_n hV hN.1 hC rfl rfl (n_game hN.1 hN.2 hI.1 hI.2.1 (by omega) x1 x2 x3) (fun I' h => hN.2.qf h)
theorem vc_move (hV : lw_V σ P S I) (hN : lw_N σ P S I) (hC : lw_C P S) (hI : lw_I σ) (hd : 75 ≤ d) (x1 x2 : Int32) : mm_C G d 84 [.ref 0, .int x1, .int x2] (I, P, J, S, nc, ns) (lw_RV (lw_o (sp_move σ x1 x2)) (st_move σ x1 x2) σ S nc ns) := by
  obtain ⟨L, hW, dV⟩ := hV
  exact lw_v hN hC rfl rfl (v_move hW.1 dV hI.1 (by omega) x1 x2) (fun r hr => lw_qa hr (fun I' h => ⟨L, hW, h⟩))
theorem nc_move (hV : lw_V τ P S I) (hN : lw_N σ P S I) (hC : lw_C P S) (hI : lw_I σ) (hd : 75 ≤ d) (x1 x2 : Int32) : mm_C G d 203 [.ref 60, .int x1, .int x2] (I, P, J, S, nc, ns) (lw_RN (sp_move σ x1 x2) (fun E => E + 1) (st_move σ x1 x2) τ J S nc ns) :=
  lw_n hV hN.1 hC rfl rfl (n_move hN.1 hN.2 hI.1 hI.2.1 (by omega) x1 x2) (fun I' h => h)
theorem vc_pass (hV : lw_V σ P S I) (hN : lw_N σ P S I) (hC : lw_C P S) (hI : lw_I σ) (hd : 75 ≤ d) : mm_C G d 85 [.ref 0] (I, P, J, S, nc, ns) (lw_RV (lw_o (sp_pass σ)) (st_pass σ) σ S nc ns) := by
  obtain ⟨L, hW, dV⟩ := hV
  exact lw_v hN hC rfl rfl (v_pass hW.1 dV hI.1 (by omega)) (fun r hr => lw_qa hr (fun I' h => ⟨L, hW, h⟩))
theorem nc_pass (hV : lw_V τ P S I) (hN : lw_N σ P S I) (hC : lw_C P S) (hI : lw_I σ) (hd : 75 ≤ d) : mm_C G d 204 [.ref 60] (I, P, J, S, nc, ns) (lw_RN (sp_pass σ) (fun E => E + 1) (st_pass σ) τ J S nc ns) :=
  lw_n hV hN.1 hC rfl rfl (n_pass hN.1 hN.2 hI.1 hI.2.1 (by omega)) (fun I' h => h)
theorem vc_fly (hV : lw_V σ P S I) (hN : lw_N σ P S I) (hC : lw_C P S) (hI : lw_I σ) (hd : 75 ≤ d) (x1 x2 : Int32) : mm_C G d 86 [.ref 0, .int x1, .int x2] (I, P, J, S, nc, ns) (lw_RV (lw_o (sp_fly σ x1 x2)) (st_fly σ x1 x2) σ S nc ns) := by
  obtain ⟨L, hW, dV⟩ := hV
  exact lw_v hN hC rfl rfl (v_fly hW.1 dV hI.1 (by omega) x1 x2) (fun r hr => lw_qa hr (fun I' h => ⟨L, hW, h⟩))
theorem nc_fly (hV : lw_V τ P S I) (hN : lw_N σ P S I) (hC : lw_C P S) (hI : lw_I σ) (hd : 75 ≤ d) (x1 x2 : Int32) : mm_C G d 205 [.ref 60, .int x1, .int x2] (I, P, J, S, nc, ns) (lw_RN (sp_fly σ x1 x2) (fun E => E + 1) (st_fly σ x1 x2) τ J S nc ns) :=
  lw_n hV hN.1 hC rfl rfl (n_fly hN.1 hN.2 hI.1 hI.2.1 (by omega) x1 x2) (fun I' h => h)
theorem vc_teach (hV : lw_V σ P S I) (hN : lw_N σ P S I) (hC : lw_C P S) (hI : lw_I σ) (hd : 75 ≤ d) (x1 x2 : Int32) : mm_C G d 87 [.ref 0, .int x1, .int x2] (I, P, J, S, nc, ns) (lw_RV (lw_o (sp_teach σ x1 x2)) (st_teach σ x1 x2) σ S nc ns) := by
  obtain ⟨L, hW, dV⟩ := hV
  exact lw_v hN hC rfl rfl (v_teach hW.1 dV hI.1 (by omega) x1 x2) (fun r hr => lw_qa hr (fun I' h => ⟨L, hW, h⟩))
theorem nc_teach (hV : lw_V τ P S I) (hN : lw_N σ P S I) (hC : lw_C P S) (hI : lw_I σ) (hd : 75 ≤ d) (x1 x2 : Int32) : mm_C G d 206 [.ref 60, .int x1, .int x2] (I, P, J, S, nc, ns) (lw_RN (sp_teach σ x1 x2) (fun E => E + 1) (st_teach σ x1 x2) τ J S nc ns) :=
  lw_n hV hN.1 hC rfl rfl (n_teach hN.1 hN.2 hI.1 hI.2.1 (by omega) x1 x2) (fun I' h => h)
theorem vc_play (hV : lw_V σ P S I) (hN : lw_N σ P S I) (hC : lw_C P S) (hI : lw_I σ) (hd : 75 ≤ d) (x1 : Int32) : mm_C G d 88 [.ref 0, .int x1] (I, P, J, S, nc, ns) (lw_RV (lw_o (sp_play σ x1)) (st_play σ x1) σ S nc ns) := by
  obtain ⟨L, hW, dV⟩ := hV
  exact lw_v hN hC rfl rfl (v_play hW.1 dV hI.1 (by omega) x1) (fun r hr => lw_qa hr (fun I' h => ⟨L, hW, h⟩))
theorem nc_play (hV : lw_V τ P S I) (hN : lw_N σ P S I) (hC : lw_C P S) (hI : lw_I σ) (hd : 75 ≤ d) (x1 : Int32) : mm_C G d 207 [.ref 60, .int x1] (I, P, J, S, nc, ns) (lw_RN (sp_play σ x1) (fun E => E + 1) (st_play σ x1) τ J S nc ns) :=
  lw_n hV hN.1 hC rfl rfl (n_play hN.1 hN.2 hI.1 hI.2.1 (by omega) x1) (fun I' h => h)
theorem vc_undo (hV : lw_V σ P S I) (hN : lw_N σ P S I) (hC : lw_C P S) (hI : lw_I σ) (hd : 75 ≤ d) : mm_C G d 89 [.ref 0] (I, P, J, S, nc, ns) (lw_RV (lw_o (sp_undo σ)) (st_undo σ) σ S nc ns) := by
  obtain ⟨L, hW, dV⟩ := hV
  exact lw_v hN hC rfl rfl (v_undo hW.1 dV hI.1 (by omega)) (fun r hr => lw_qa hr (fun I' h => ⟨L, hW, h⟩))
theorem nc_undo (hV : lw_V τ P S I) (hN : lw_N σ P S I) (hC : lw_C P S) (hI : lw_I σ) (hd : 75 ≤ d) : mm_C G d 174 [.ref 60] (I, P, J, S, nc, ns) (lw_RN (sp_undo σ) (fun E => E + 1) (st_undo σ) τ J S nc ns) :=
  lw_n hV hN.1 hC rfl rfl (n_undo hN.1 hN.2 hI.1 hI.2.1 (by omega)) (fun I' h => h)
theorem vc_see (hV : lw_V σ P S I) (hN : lw_N σ P S I) (hC : lw_C P S) (hI : lw_I σ) (hd : 75 ≤ d) (x1 x2 x3 : Int32) : mm_C G d 99 [.ref 0, .int x1, .int x2, .int x3] (I, P, J, S, nc, ns) (lw_RV (lw_o (sp_see σ x1 x2 x3)) (st_see σ x1 x2 x3) σ S nc ns) := by
  obtain ⟨L, hW, dV⟩ := hV
  exact lw_v hN hC rfl rfl (v_see hW.1 dV hI.1 (by omega) x1 x2 x3) (fun r hr => lw_qa hr (fun I' h => ⟨L, hW, h⟩))
theorem nc_see (hV : lw_V τ P S I) (hN : lw_N σ P S I) (hC : lw_C P S) (hI : lw_I σ) (hd : 75 ≤ d) (x1 x2 x3 : Int32) : mm_C G d 226 [.ref 60, .int x1, .int x2, .int x3] (I, P, J, S, nc, ns) (lw_RN (sp_see σ x1 x2 x3) (fun E => E + 1) (st_see σ x1 x2 x3) τ J S nc ns) :=
  lw_n hV hN.1 hC rfl rfl (n_see hN.1 hN.2 hI.1 hI.2.1 (by omega) x1 x2 x3) (fun I' h => h)
theorem vc_forget (hV : lw_V σ P S I) (hN : lw_N σ P S I) (hC : lw_C P S) (hI : lw_I σ) (hd : 75 ≤ d) : mm_C G d 100 [.ref 0] (I, P, J, S, nc, ns) (lw_RV (.inl none) (vs_see σ []) σ S nc ns) := by
  obtain ⟨L, hW, dV⟩ := hV
  exact lw_v hN hC rfl rfl (v_forget hW.1 dV (by omega)) (fun r hr => lw_q0 hr (fun I' h => ⟨L, hW, h⟩))
theorem nc_forget (hV : lw_V τ P S I) (hN : lw_N σ P S I) (hC : lw_C P S) (hI : lw_I σ) (hd : 75 ≤ d) : mm_C G d 227 [.ref 60] (I, P, J, S, nc, ns) (lw_RN0 (vs_see σ []) τ J S nc ns) :=
  lw_nn hV hN.1 hC rfl rfl (n_forget hN.1 hN.2) (fun I' h => h.1)
theorem vc_image (hV : lw_V σ P S I) (hN : lw_N σ P S I) (hC : lw_C P S) (hI : lw_I σ) (hd : 75 ≤ d) : mm_C G d 120 [.ref 0] (I, P, J, S, nc, ns) (lw_RV (.inl none) (sp_image σ) σ S nc ns) := by
  obtain ⟨L, hW, dV⟩ := hV
  exact lw_v hN hC rfl rfl (v_image hW.1 dV (by omega)) (fun r hr => lw_q0 hr (fun I' h => ⟨L, hW, h⟩))
theorem nc_image (hV : lw_V τ P S I) (hN : lw_N σ P S I) (hC : lw_C P S) (hI : lw_I σ) (hd : 75 ≤ d) : mm_C G d 247 [.ref 60] (I, P, J, S, nc, ns) (lw_RN0 (sp_image σ) τ J S nc ns) :=
  lw_nn hV hN.1 hC rfl rfl (n_image hN.1 hN.2 (by omega)) (fun I' h => h.1)
theorem vc_restore (hV : lw_V σ P S I) (hN : lw_N σ P S I) (hC : lw_C P S) (hI : lw_I σ) (hd : 75 ≤ d) : mm_C G d 121 [.ref 0] (I, P, J, S, nc, ns) (lw_RV (lw_o (sp_restore σ)) (st_restore σ) σ S nc ns) := by
  obtain ⟨L, hW, dV⟩ := hV
  exact lw_v hN hC rfl rfl (v_restore hW.1 dV (by omega)) (fun r hr => lw_qa hr (fun I' h => ⟨L, hW, h⟩))
theorem nc_restore (hV : lw_V τ P S I) (hN : lw_N σ P S I) (hC : lw_C P S) (hI : lw_I σ) (hd : 75 ≤ d) : mm_C G d 248 [.ref 60] (I, P, J, S, nc, ns) (lw_RN (sp_restore σ) (fun E => E + 1) (st_restore σ) τ J S nc ns) :=
  lw_n hV hN.1 hC rfl rfl (n_restore hN.1 hN.2 hI.1 hI.2.1 (by omega)) (fun I' h => h)
theorem vc_feed (hV : lw_V σ P S I) (hN : lw_N σ P S I) (hC : lw_C P S) (hI : lw_I σ) (hd : 75 ≤ d) (x1 x2 x3 x4 x5 : Int32) : mm_C G d 75 [.ref 0, .int x1, .int x2, .int x3, .int x4, .int x5] (I, P, J, S, nc, ns) (lw_RV (lw_o (sp_feed σ x1 x2 x3 x4 x5)) (st_feed σ x1 x2 x3 x4 x5) σ S nc ns) := by
  obtain ⟨L, hW, dV⟩ := hV
  exact lw_v hN hC rfl rfl (v_feed hW.1 dV (by omega) x1 x2 x3 x4 x5) (fun r hr => lw_qa hr (fun I' h => ⟨L, hW, h⟩))
theorem nc_feed (hV : lw_V τ P S I) (hN : lw_N σ P S I) (hC : lw_C P S) (hI : lw_I σ) (hd : 75 ≤ d) (x1 x2 x3 x4 x5 : Int32) : mm_C G d 141 [.ref 60, .int x1, .int x2, .int x3, .int x4, .int x5] (I, P, J, S, nc, ns) (lw_RN (sp_feed σ x1 x2 x3 x4 x5) (fun E => E + 1) (st_feed σ x1 x2 x3 x4 x5) τ J S nc ns) :=
  lw_n hV hN.1 hC rfl rfl (n_feed hN.1 hN.2 hI.1 hI.2.1 (by omega) x1 x2 x3 x4 x5) (fun I' h => h)
theorem vc_board (hV : lw_V σ P S I) (hN : lw_N σ P S I) (hC : lw_C P S) (hI : lw_I σ) (hd : 75 ≤ d) (x1 : Int32) : mm_C G d 77 [.ref 0, .int x1] (I, P, J, S, nc, ns) (lw_RV (lw_o (sp_board σ x1)) (st_board σ x1) σ S nc ns) := by
  obtain ⟨L, hW, dV⟩ := hV
  exact lw_v hN hC rfl rfl (v_board hW dV hI.1 hI.2.2 (by omega) x1) (fun r hr => lw_qb hr)
theorem nc_board (hV : lw_V τ P S I) (hN : lw_N σ P S I) (hC : lw_C P S) (hI : lw_I σ) (hd : 75 ≤ d) (x1 : Int32) : mm_C G d 170 [.ref 60, .int x1] (I, P, J, S, nc, ns) (lw_RN (sp_board σ x1) (fun _ => 1) (st_board σ x1) τ J S nc ns) :=
  lw_nB hV hN.1 hC rfl rfl (n_board hN.1 hN.2 hI.2.2 (by omega) x1)
end LW1
