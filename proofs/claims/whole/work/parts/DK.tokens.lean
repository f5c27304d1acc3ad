/-! ALL TOKENS OF BOTH: TF holds. -/
section TK
variable {cx : Nat → Nat} {F : Nat → Nat → Int32} {N : Nat → Int64} {s : rS} {g : Nat → Int32} {n tok b m : Nat} {T : Int32} {l : List Nat}
theorem tb_len (g : Nat → Int32) (n : Nat) : ∀ (f a : Nat), a ≤ n → (tb g n f a).length ≤ n - a := by
  intro f
  induction f with
  | zero => intro a _; exact Nat.zero_le _
  | succ f ih =>
    intro a ha
    have hb := lx_bl_le g n (n - a) a ha
    rw [tb]
    split
    · exact Nat.zero_le _
    · next c =>
      have he := lx_en_gt g n (lx_bl g n (n - a) a) (by omega)
      have := ih (lx_en g n (lx_bl g n (n - a) a)) he.2
      show (tb g n f (lx_en g n (lx_bl g n (n - a) a))).length + 1 ≤ n - a
      omega
theorem tn14 : ∀ j, j < 14 → ¬ (5 + Int32.ofNat j = 0) ∧ ¬ (5 + Int32.ofNat j = 2) ∧ ¬ (5 + Int32.ofNat j = 3) ∧ ¬ (5 + Int32.ofNat j = 4) := by decide +kernel
theorem tn24 : ∀ j, j < 24 → ¬ (Int32.ofNat (pmK j) = 0) ∧ ¬ (Int32.ofNat (pmK j) = 2) ∧ ¬ (Int32.ofNat (pmK j) = 3) ∧ ¬ (Int32.ofNat (pmK j) = 4) := by decide +kernel
theorem TR_nm (h : TR s g n tok b T) : ¬ T = 0 ∧ (T = 2 ∨ T = 3 → s.2.2 43 tok = rcC g (lx_ln g n b) b 0) ∧ (T = 4 → s.2.1 42 tok = rcV g false (lx_ln g n b) b 0) := by
  rcases h with ⟨a, _⟩ | ⟨a, _, c⟩ | ⟨a, _, c⟩ | ⟨a, _, c⟩ | ⟨j, hj, a, _⟩ | ⟨a, _⟩ | ⟨j, hj, a, _⟩
  · subst a
    exact ⟨by decide, fun u => absurd u (by decide), fun u => absurd u (by decide)⟩
  · subst a
    exact ⟨by decide, fun _ => c, fun u => absurd u (by decide)⟩
  · subst a
    exact ⟨by decide, fun _ => c, fun u => absurd u (by decide)⟩
  · subst a
    exact ⟨by decide, fun u => absurd u (by decide), fun _ => c⟩
  · obtain ⟨q0, q2, q3, q4⟩ := tn14 j hj
    subst a
    exact ⟨q0, fun u => u.elim (fun u => absurd u q2) (fun u => absurd u q3), fun u => absurd u q4⟩
  · subst a
    exact ⟨by decide, fun u => absurd u (by decide), fun u => absurd u (by decide)⟩
  · obtain ⟨q0, q2, q3, q4⟩ := tn24 j hj
    subst a
    exact ⟨q0, fun u => u.elim (fun u => absurd u q2) (fun u => absurd u q3), fun u => absurd u q4⟩
theorem TR_0 (h : TR s g n tok b T) : TR0 T (s.2.1 40 tok) (s.2.1 42 tok) := by
  rcases h with ⟨a, c⟩ | ⟨a, c, _⟩ | ⟨a, c, _⟩ | ⟨a, c, _⟩ | ⟨j, hj, a, c⟩ | ⟨a, c⟩ | ⟨j, hj, a, c⟩
  · exact Or.inr (Or.inl ⟨a, c⟩)
  · exact Or.inr (Or.inr (Or.inl ⟨a, c⟩))
  · exact Or.inr (Or.inr (Or.inr (Or.inl ⟨a, c⟩)))
  · exact Or.inr (Or.inr (Or.inr (Or.inr (Or.inl ⟨a, c⟩))))
  · exact Or.inr (Or.inr (Or.inr (Or.inr (Or.inr (Or.inl ⟨j, hj, a, c⟩)))))
  · exact Or.inr (Or.inr (Or.inr (Or.inr (Or.inr (Or.inr (Or.inl ⟨a, c⟩))))))
  · exact Or.inr (Or.inr (Or.inr (Or.inr (Or.inr (Or.inr (Or.inr ⟨j, hj, a, c⟩))))))
/-- a sign is no name and no number -/
theorem sg_no (g : Nat → Int32) (b e : Nat) : ¬ (sgT g b e = 2 ∨ sgT g b e = 3 ∨ sgT g b e = 4) := by
  unfold sgT
  generalize sgS (Int8.toInt32 (Int32.toInt8 (g b))) sgN 0 = x
  split
  · decide
  · split
    · next c =>
      intro u
      have key : ∀ y : Int32, 5 + x = y → x = y - 5 := fun y hy => by rw [← hy, Int32.add_comm, Int32.add_sub_cancel]
      rcases u with u | u | u
      · rw [key 2 u] at c; exact absurd c (by decide)
      · rw [key 3 u] at c; exact absurd c (by decide)
      · rw [key 4 u] at c; exact absurd c (by decide)
    · decide
/-- a name, a title or a number is a row of letters and digits -/
theorem tk_al (hb : b < n) (h : tkF g n b = 2 ∨ tkF g n b = 3 ∨ tkF g n b = 4) : lx_en g n b - b = lx_ln g n b ∧ (tkF g n b = 2 ∨ tkF g n b = 3 → lx_en g n b ≤ b + 8) := by
  have al : rd_al (g b) = true := by
    by_cases c : rd_al (g b) = true
    · exact c
    · unfold tkF at h
      rw [if_neg c] at h
      exact absurd h (sg_no _ _ _)
  have sk : b < lx_sk g (n - b) b := by
    obtain ⟨r, hr⟩ : ∃ r, n - b = r + 1 := ⟨n - b - 1, by omega⟩
    rw [hr, lx_sk, if_pos al]
    have := (lx_sk_ge g r (b + 1)).1
    omega
  have en : lx_en g n b = lx_sk g (n - b) b := by
    unfold lx_en
    rw [if_pos sk]
  refine ⟨by rw [en]; rfl, fun u => ?_⟩
  by_cases c8 : lx_en g n b - b ≤ 8
  · omega
  · unfold tkF at u
    rw [if_pos al] at u
    unfold rowT rowF at u
    exfalso
    revert u
    split
    · split <;> decide
    · split
      · decide
      · first | decide | (rw [if_neg c8]; decide)
theorem tf_of (hn : n ≤ 2000) (x6 : cx 6 = n) (x15 : cx 15 = l.length) (x16 : cx 16 = m) (hl : l.length ≤ n) (hby : ∀ j, fits .byte (.int (F 0 j)) = true) (rt : rTk F N s) (c : ∀ i b, l[i]? = some b → b < n ∧ F 1 i = tkF (fun j => F 0 j &&& 255) n b ∧ F 2 i = Int32.ofNat b ∧ F 3 i = Int32.ofNat (lx_en (fun j => F 0 j &&& 255) n b)) (hm : m ≤ l.length) (r : ∀ i b, i < m → l[i]? = some b → s.2.1 41 i = Int32.ofNat b ∧ TR s (fun j => F 0 j &&& 255) n i b (tkF (fun j => F 0 j &&& 255) n b) ∧ ¬ tkF (fun j => F 0 j &&& 255) n b = 1) (e : (m = l.length ∧ s.2.1 40 m = 0 ∧ s.2.1 41 m = Int32.ofNat n) ∨ ∃ b, l[m]? = some b ∧ tkF (fun j => F 0 j &&& 255) n b = 1 ∧ s.2.1 40 m = 6 ∧ s.2.1 41 m = Int32.ofNat b) : TF cx F N := by
  obtain ⟨t1, t2, t3, t4⟩ := rt
  refine ⟨⟨by omega, by omega, by omega⟩, hby, fun i hi => ?_⟩
  by_cases im : i < m
  · have il : i < l.length := by omega
    obtain ⟨b, hb⟩ : ∃ b, l[i]? = some b := ⟨l[i], List.getElem?_eq_getElem il⟩
    obtain ⟨c1, c2, c3, c4⟩ := c i b hb
    obtain ⟨r1, r2, r3⟩ := r i b im hb
    have ek : ctk cx F i = tkF (fun j => F 0 j &&& 255) n b := by unfold ctk; rw [if_pos (by omega)]; exact c2
    have ep : cpl cx F i = Int32.ofNat b := by unfold cpl; rw [if_pos (by omega)]; exact c3
    obtain ⟨q1, q2, q3⟩ := TR_nm r2
    have en := lx_en_gt (fun j => F 0 j &&& 255) n b c1
    refine ⟨⟨by rw [← t2, r1, ep], ⟨b, by omega, ep⟩, by rw [ek, ← t1, ← t3]; exact TR_0 r2⟩, ⟨fun u => ?_, fun u => by omega⟩, fun u => ?_, fun u => ?_⟩
    · rw [ek] at u
      exact u.elim (fun u => absurd u q1) (fun u => absurd u r3)
    · rw [ek] at u
      obtain ⟨w1, w2⟩ := tk_al c1 (u.elim Or.inl (fun u => Or.inr (Or.inl u)))
      refine ⟨b, lx_en (fun j => F 0 j &&& 255) n b, c3, c4, en.1, by omega, w2 u, ?_, ?_⟩
      · rw [w1]; exact row_chs _ n b
      · rw [w1, ← t4]; exact q2 u
    · rw [ek] at u
      obtain ⟨w1, w2⟩ := tk_al c1 (Or.inr (Or.inr u))
      refine ⟨b, lx_en (fun j => F 0 j &&& 255) n b, c3, c4, by omega, by omega, ?_⟩
      rw [w1, ← t3]; exact q3 u
  · have ie : i = m := by omega
    subst ie
    rcases e with ⟨e1, e2, e3⟩ | ⟨b, e1, e2, e3, e4⟩
    · have ek : ctk cx F i = 0 := by unfold ctk; rw [if_neg (by omega)]
      have ep : cpl cx F i = Int32.ofNat n := by unfold cpl; rw [if_neg (by omega), x6]
      refine ⟨⟨by rw [← t2, e3, ep], ⟨n, hn, ep⟩, by rw [ek, ← t1, e2]; exact Or.inl ⟨rfl, rfl⟩⟩, ⟨fun _ => x16.symm, fun _ => Or.inl ek⟩, fun u => ?_, fun u => ?_⟩
      · rw [ek] at u; exact absurd u (by decide)
      · rw [ek] at u; exact absurd u (by decide)
    · have il := (List.getElem?_eq_some_iff.mp e1).1
      obtain ⟨c1, c2, c3, c4⟩ := c i b e1
      have ek : ctk cx F i = 1 := by unfold ctk; rw [if_pos (by omega), c2]; exact e2
      have ep : cpl cx F i = Int32.ofNat b := by unfold cpl; rw [if_pos (by omega)]; exact c3
      refine ⟨⟨by rw [← t2, e4, ep], ⟨b, by omega, ep⟩, by rw [ek, ← t1, e3]; exact Or.inr (Or.inl ⟨rfl, rfl⟩)⟩, ⟨fun _ => x16.symm, fun _ => Or.inr ek⟩, fun u => ?_, fun u => ?_⟩
      · rw [ek] at u; exact absurd u (by decide)
      · rw [ek] at u; exact absurd u (by decide)
end TK
