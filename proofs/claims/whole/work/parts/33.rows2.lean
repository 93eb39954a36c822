section ROWS2
variable {G : mm_G} {d k : Nat} {is : List mm_I} {ls st : List Value} {μ : mm_M} {Q : mm_R → Prop} {t b w i : Nat} {c : Int32}
/-- the locals behind a count, written out -/
theorem mm_nincL {a : Nat} {n : Int} {ls' : List Value} (m : Nat) (hl : ls[a]? = some (.int (vb_i i))) (hm : Int32.ofInt n = vb_i m) (e : mm_s1 a (.int (vb_i (i + m))) ls = ls') (kk : mm_W G d k is ls' st μ Q) : mm_W G d k ((.iinc a n, t, b, w, c) :: is) ls st μ Q := by
  subst e; exact mm_ninc m hl hm kk
theorem mm_ndecL {a : Nat} {n : Int} {ls' : List Value} (m : Nat) (hl : ls[a]? = some (.int (vb_i i))) (hm : Int32.ofInt n = - vb_i m) (hi : m ≤ i) (e : mm_s1 a (.int (vb_i (i - m))) ls = ls') (kk : mm_W G d k is ls' st μ Q) : mm_W G d k ((.iinc a n, t, b, w, c) :: is) ls st μ Q := by
  subst e; exact mm_ndec m hl hm hi kk
end ROWS2
