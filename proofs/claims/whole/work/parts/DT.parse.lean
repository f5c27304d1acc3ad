/-! BUILD: BOTH HAVE PARSED THE TEXT. -/
/-- numbers at the beginning -/
def gB0 : Nat → Nat := fun i => if i = 1 then 5 else if i = 4 then 1 else 0
/-- nodes and arguments are paid for by tokens -/
def nTk (s : rS) : Prop := 0 ≤ (s.1 10).toInt ∧ (s.1 56).toInt ≤ 2001 ∧ (s.1 10).toInt + (sm2 (s.2.1 52) (s.1 10).toInt.toNat : Int) ≤ (s.1 56).toInt + 1
section BP
variable {L : Nat} {xs : Nat → Int32} {zf : Value} {w k k2 : Nat} {h : rm_H} {s : rS} {p b n m : Nat} {f : Nat → Int32} {ml : Int32}
theorem a255 (x : Int32) : 0 ≤ (x &&& 255).toInt ∧ (x &&& 255).toInt ≤ 255 := a255_i x
theorem b_parse {fs : List Value} (hB : hc h 21 = some (.inr (0, fs))) (h0 : fs[0]? = some (.ref p)) (hS : sB h p b n m ml f) (hn : n ≤ 2000) (hw : 2100 ≤ w) (u : uA h) (h2 : s.1 2 = Int32.ofNat n) (tx : ∀ i, i < n → s.2.1 37 i = f i &&& 255) (hwd : wdR (s.2.2 39)) : ∃ (h1 : rm_H) (s1 : rS) (h' : rm_H) (s' : rS) (g' : Nat → Nat) (ts' : List Nat) (cx : Nat → Nat) (F : Nat → Nat → Int32) (N : Nat → Int64), b43_0 L xs zf (dM L xs zf w (202 + k)) w (some 21) h = bR L xs zf (dM L xs zf w (202 + k)) w (21 + h.length) (some (none, h')) ∧ s294_0 (rM w (102 + k2)) w s = rR (rM w (102 + k2)) w (some (none, s')) ∧ rB1 s s1 n ∧ (rKd s1 s' 0 0 0 0 ∧ (s'.1 57 = 0 → nTk s')) ∧ (cx 6 = n ∧ cx 7 = 33 + h.length ∧ cx 8 = 21 + h.length ∧ cx 9 = 22 + h.length ∧ cx 10 = 23 + h.length ∧ cx 11 = 24 + h.length ∧ cx 12 = 25 + h.length ∧ cx 13 = 26 + h.length ∧ cx 14 = 0) ∧ h1.length = h.length + 13 ∧ fr (fun _ => False) h h' ∧ hc h' (25 + h.length) = some (iN0 64) ∧ hc h' (26 + h.length) = some (iN0 64) ∧ h1.length ≤ h'.length ∧ h'.length ≤ h.length + 13 + 10 * g' 0 + g' 6 ∧ zh h' ≤ zh h + 167 + 4 * n + 4 * g' 2 + 80 * g' 0 + 8 * g' 6 + 3000 ∧ g' 0 ≤ 2000 ∧ (g' 6 ≤ 1010 ∧ g' 2 ≤ 2 * (g' 0 + g' 6) + 10 ∧ (n = 0 → g' 6 = 0)) ∧ g' 0 ≤ n + 1 ∧ ((∃ kl ml a9 c9 a10 c10, SY cx F N [] h' s' g' ts' ∧ kl.length ≤ 8 ∧ kl.length ≠ 0 ∧ s'.1 32 = Int32.ofNat kl.length ∧ aL h' (cx 9) a9 c9 kl ∧ (∀ y ∈ kl, oK h' y) ∧ aL h' (cx 10) a10 c10 ml ∧ (∀ y ∈ ml, oK h' y) ∧ KJs L xs cx F N [] (21 + h1.length) h' s' g' ts' kl ml) ∨ (s'.1 57 = 1 ∧ s'.1 58 ≠ -1 ∧ uA h' ∧ ∃ pt vr, hc h' (cx 8) = some (pgF cx pt vr (s'.1 58)))) := by
  obtain ⟨h1, f2, c, A, B, C, c1, c2, c3, c4, c5, c6, c7, c8, c9, c10, c11, c12, c13, c14, c15, c16⟩ := c_head (L := L) (xs := xs) (zf := zf) (w := w) (k := 192 + k) hB h0 hS hn hw u
  rw [show 192 + k + 10 = 202 + k from by omega] at c1
  obtain ⟨s1, g1, r1, r2, r3, r4⟩ := r_head (w := w) (k := 99 + k2) h2 hn hw (fun i hi => by rw [tx i hi]; exact a255 _) hwd
  rw [show 99 + k2 + 3 = 102 + k2 from by omega] at r1
  have ag : ∀ i, i < n → g1 i = (fun j => f2 j &&& 255) i := fun i hi => by
    show g1 i = f2 i &&& 255
    rw [r3 i hi, tx i hi, c2 i hi]
  have cr := lxC_tb (fun i => f2 i &&& 255) n n 0 0 (fun _ => 0) (fun _ => 0) (fun _ => 0) (by omega) (by omega)
  rw [← c4] at cr
  obtain ⟨q1, q2⟩ := cr
  have q1 : c = 0 + (tb (fun i => f2 i &&& 255) n (n + 1) 0).length := q1
  have ll := tb_len (fun i => f2 i &&& 255) n (n + 1) 0 (Nat.zero_le _)
  rw [tb_cg ag (n + 1) 0 (Nat.zero_le _)] at r4
  generalize hl : tb (fun i => f2 i &&& 255) n (n + 1) 0 = l at q1 q2 ll r4
  obtain ⟨mm, m1, m2, m3, m4⟩ := r4
  have q2 : ∀ i b, l[i]? = some b → b < n ∧ A i = tkF (fun j => f2 j &&& 255) n b ∧ B i = Int32.ofNat b ∧ C i = Int32.ofNat (lx_en (fun j => f2 j &&& 255) n b) := fun i b e => by
    have := q2 i b e
    rw [Nat.zero_add] at this
    exact this
  have hTF : TF (cxB h.length n c mm) (FB f2 A B C (s1.2.1 40) (s1.2.1 41) (s1.2.1 42)) (s1.2.2 43) := by
    refine tf_of (n := n) (l := l) (m := mm) (s := s1) hn rfl (show c = l.length by omega) rfl (by omega) c3 ⟨rfl, rfl, rfl, rfl⟩ q2 m1 (fun i b im e => ?_) ?_
    · obtain ⟨t1, t2, t3⟩ := m3 i b im e
      have bn := (q2 i b e).1
      rw [Nat.zero_add] at t1 t2
      rw [tkF_cg ag b bn] at t2 t3
      exact ⟨t1, TR_cg ag bn t2, t3⟩
    · rcases m4 with ⟨t1, t2, t3⟩ | ⟨b, t1, t2, t3, t4⟩
      · rw [Nat.zero_add] at t2 t3
        exact Or.inl ⟨t1, t2, t3⟩
      · have bn := (q2 mm b t1).1
        rw [Nat.zero_add] at t3 t4
        rw [tkF_cg ag b bn] at t2
        exact Or.inr ⟨b, t1, t2, t3, t4⟩
  obtain ⟨b1, b2, b3, b4, b5, b6⟩ := r2
  obtain ⟨z3, z2, z74, z111, z72, z73, z56, z57, z58, z10, z24, z25, z26, z32, z38, z42, z52⟩ := id b1
  have CHh : CH (cxB h.length n c mm) [] h1 gB0 [] (s1.1 24) (s1.1 25) := by
    rw [z24, z25]
    exact ⟨c6, c9, fun x hx => (List.not_mem_nil hx).elim, c10, Or.inl rfl⟩
  have CSs : CS s1 gB0 := ⟨z56, z10, z26, Nat.le_refl _⟩
  obtain ⟨h', s', g', ts', x1, x2, x3, x5, x5b, x6, x7, x8⟩ := x_read (L := L) (xs := xs) (zf := zf) (w := w) (k := k) (k2 := k2) (q := []) (g := gB0) (s := s1) (h := h1) (a9 := 5) (c9 := 0) (a10 := 5) (c10 := 0) hTF hw rfl (show 22 + h.length ≠ 24 + h.length by omega) (show 23 + h.length ≠ 24 + h.length by omega) (show 22 + h.length ≠ 23 + h.length by omega) (c5 mm _ _ _ (by omega) (by omega)) CHh ⟨z57, z58, fun hh => absurd rfl hh, Nat.zero_le _⟩ ⟨rfl, rfl, rfl, rfl⟩ CSs (fun d fs hd => c16 d fs hd) ⟨rfl, Nat.le_refl _, rfl, rfl⟩ z32 z38 z42 z52 b4 c7 c8
  obtain ⟨o1, o2, o3, o4, o5⟩ := x3
  have e0 : gB0 0 = 0 := rfl
  have e2 : gB0 2 = 0 := rfl
  have e6 : gB0 6 = 0 := rfl
  have g0n : g' 0 ≤ mm := x5b
  have bl : h'.length ≤ h.length + 13 + 10 * g' 0 + g' 6 := by clear x8; omega
  have bz : zh h' ≤ zh h + 167 + 4 * n + 4 * g' 2 + 80 * g' 0 + 8 * g' 6 + 3000 := by clear x8; omega
  have bg : g' 0 ≤ 2000 ∧ g' 0 ≤ n + 1 := by clear x8; omega
  have c00 : n = 0 → c = 0 := by clear x8; intro n0; omega
  refine ⟨h1, s1, h', s', g', ts', cxB h.length n c mm, _, _, ?_, ?_, ⟨b1, b2, b3, b4, b5, b6⟩, ⟨x6, fun z => nod_tok x2 (show s1.1 10 = 1 from z10) (show s1.1 56 = 0 from z56) z⟩, ⟨rfl, rfl, rfl, rfl, rfl, rfl, rfl, rfl, rfl⟩, c14, ?_, ?_, ?_, o1.1, bl, bz, bg.1, ⟨x5.1, x5.2.1, fun n0 => x5.2.2 (c00 n0)⟩, bg.2, x8⟩
  · rw [c1]
    have x1 : dM L xs zf w (202 + k) 91 [.ref (33 + h.length)] h1 = some (none, h') := x1
    rw [x1]
  · rw [r1, x2]
  · refine fr_trans c13 (fr_21 o1) (fun y hy u => ?_)
    obtain ⟨u, u21⟩ := u
    rcases u with (u | u | u | u | u) | (u | u | u | u)
    · have u : y = 27 + h.length := u
      omega
    · have u : y = 21 + h.length := u
      omega
    · have u : y = 24 + h.length := u
      omega
    · have u : y = 0 := u
      omega
    · have u : y = 5 := u
      omega
    · have u : y = 22 + h.length := u
      omega
    · omega
    · have u : y = 23 + h.length := u
      omega
    · omega
  · refine fr_old o1 c11 (fun u => ?_)
    rcases u with (u | u | u | u | u) | (u | u | u | u)
    · have u : 25 + h.length = 27 + h.length := u
      omega
    · have u : 25 + h.length = 21 + h.length := u
      omega
    · have u : 25 + h.length = 24 + h.length := u
      omega
    · have u : 25 + h.length = 0 := u
      omega
    · have u : 25 + h.length = 5 := u
      omega
    · have u : 25 + h.length = 22 + h.length := u
      omega
    · omega
    · have u : 25 + h.length = 23 + h.length := u
      omega
    · omega
  · refine fr_old o1 c12 (fun u => ?_)
    rcases u with (u | u | u | u | u) | (u | u | u | u)
    · have u : 26 + h.length = 27 + h.length := u
      omega
    · have u : 26 + h.length = 21 + h.length := u
      omega
    · have u : 26 + h.length = 24 + h.length := u
      omega
    · have u : 26 + h.length = 0 := u
      omega
    · have u : 26 + h.length = 5 := u
      omega
    · have u : 26 + h.length = 22 + h.length := u
      omega
    · omega
    · have u : 26 + h.length = 23 + h.length := u
      omega
    · omega
end BP
