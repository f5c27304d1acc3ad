/-! BEHIND A FAULT: what has parts; the parts are premises. -/
/-- Nodes, lists, names and Decls are as they were at hB, but for the types of Nodes -/
def nbH (L : Nat) (xs : Nat → Int32) (hB h : rm_H) : Prop := (∀ p j v, j ≠ 12 → fd hB 12 p j = some v → fd h 12 p j = some v) ∧ (∀ l ar cap es, aL hB l ar cap es → aL h l ar cap es) ∧ (∀ q c, nS L xs hB q c → nS L xs h q c) ∧ (∀ p j v, fd hB 10 p j = some v → fd h 10 p j = some v) ∧ ∀ p, (fd hB 12 p 12).isSome = true → (fd h 12 p 12).isSome = true
/-- all that is known behind a fault -/
def EV (L : Nat) (xs : Nat → Int32) (cx : Nat → Nat) (C Sc M : Nat) (pt vr : Int32) (mv : Value) (ds : List Nat) (f : Nat → Int64) (sl ty : Nat → Int32) (rc a b : Int32) (kl : List Nat) (hB h : rm_H) (u : Nat → Nat) : Prop := KZ L xs cx C Sc M pt vr mv ds f sl ty rc a b h u ∧ GE L xs cx h kl ∧ mSf h M ∧ nbH L xs hB h ∧ a ≠ 0
/-- method mi of the Checker over Node p0, with n instructions at most -/
def ZX (L : Nat) (xs : Nat → Int32) (zf : Value) (w : Nat) (cx : Nat → Nat) (C Sc M pl ph : Nat) (pt vr : Int32) (mv : Value) (ds : List Nat) (f : Nat → Int64) (sl ty : Nat → Int32) (rc a b : Int32) (kl : List Nat) (hB : rm_H) (mi p0 n ke : Nat) : Prop := ∀ (j : Nat) (h : rm_H) (u : Nat → Nat), EV L xs cx C Sc M pt vr mv ds f sl ty rc a b kl hB h u → u 2 + n ≤ 9000 → ∃ t h' u', (dcV L xs (dM L xs zf w (ke + j)) mi [13] (some C) [va_rf (some p0)] h).bind dxI = some (t, h') ∧ ZR L xs cx C Sc M pl ph pt vr mv ds f sl ty rc a b h u n h' u'
section ZR6
variable {L : Nat} {xs : Nat → Int32} {zf : Value} {w k C Sc M pl ph K p p0 n m ke : Nat} {cx : Nat → Nat} {hB h h1 h2 : rm_H} {pt vr gn rc a b x y t : Int32} {mv : Value} {ds kl es : List Nat} {f : Nat → Int64} {sl ty : Nat → Int32} {u u1 u2 : Nat → Nat} {A B : Nat → Int32}
theorem nbH_w (kz : KZ L xs cx C Sc M pt vr mv ds f sl ty rc a b h u) (e : wF cx C Sc pl ph u h h1) (nb : nbH L xs hB h) : nbH L xs hB h1 := by
  obtain ⟨gn, A, B, kh⟩ := kz
  obtain ⟨n1, n2, n3, n4, n5⟩ := nb
  refine ⟨fun p j v hj z => wF_12 e hj (n1 p j v hj z), fun l ar cap es z => wF_aL kh e (n2 l ar cap es z), fun q c z => nS_fr e.1 (n3 q c z), fun p j v z => wF_f kh e (by decide) (n4 p j v z), fun p z => ?_⟩
  obtain ⟨v, hv⟩ := Option.isSome_iff_exists.mp (n5 p z)
  obtain ⟨fs, e1, e2⟩ := fd_c hv
  rcases e.2 p fs e1 with e3 | ⟨v2, e3⟩
  · rw [fd_of e3, e2]
    rfl
  · rw [fd_of e3, List.getElem?_set_self (List.getElem?_eq_some_iff.mp e2).1]
    rfl
theorem EV_s (e : EV L xs cx C Sc M pt vr mv ds f sl ty rc a b kl hB h u) (z : ZR L xs cx C Sc M pl ph pt vr mv ds f sl ty rc a b h u n h1 u1) : EV L xs cx C Sc M pt vr mv ds f sl ty rc a b kl hB h1 u1 := by
  obtain ⟨e1, e2, e3, e4, e5⟩ := e
  obtain ⟨z1, z2, _⟩ := z
  obtain ⟨gn, A, B, kh⟩ := id e1
  obtain ⟨K, ac, nb, cp, q1, q2, q3, q4⟩ := e3
  exact ⟨z1, GE_w kh z2 e2, ⟨K, ac, nb, cp, wF_f kh z2 (by decide) q1, wF_f kh z2 (by decide) q2, wF_f kh z2 (by decide) q3, wF_f kh z2 (by decide) q4⟩, nbH_w e1 z2 e4, e5⟩
/-- a value -/
theorem zx_171 {s x0 : Int32} (IH : ZX L xs zf w cx C Sc M pl ph pt vr mv ds f sl ty rc a b kl hB 172 p0 n ke) (e0 : fd hB 12 p0 0 = some (.int x0)) (e1 : fd hB 12 p0 1 = some (.int s)) (hk : 2 ≤ ke) : ZX L xs zf w cx C Sc M pl ph pt vr mv ds f sl ty rc a b kl hB 171 p0 n (ke + 1) := by
  intro j h u ev hz
  obtain ⟨t, h', u', r1, r2⟩ := IH j h u ev hz
  obtain ⟨z', _, _, nb', ha⟩ := EV_s ev r2
  have e0' := nb'.1 _ _ _ (by decide) e0
  have e1' : dgI L xs h' 1 [12] (some p0) = some s := fd_I (nb'.1 _ _ _ (by decide) e1) (by decide)
  obtain ⟨k', rfl⟩ : ∃ k', ke = k' + 2 := ⟨ke - 2, by omega⟩
  have rf := fun x y => zk_ref (zf := zf) (w := w) (k := k' + j + 1) z' ha x y
  rw [show k' + j + 1 + 1 = k' + 2 + j from by omega] at rf
  have so : ∀ t, (dM L xs zf w (k' + 2 + j) 159 [.int t] h').bind dxI = some (t &&& 15, h') := fun t => by rw [show k' + 2 + j = k' + 1 + j + 1 from by omega]; exact t_so t h'
  have cp : ∀ t, (dM L xs zf w (k' + 2 + j) 160 [.int t] h').bind dxI = some ((t >>> ((8 : Int32) &&& 31)) &&& 7, h') := fun t => by rw [show k' + 2 + j = k' + 1 + j + 1 from by omega]; exact t_cp t h'
  have kd : ∀ t, (dM L xs zf w (k' + 2 + j) 189 [.int t] h').bind dxI = some ((t >>> ((4 : Int32) &&& 31)) &&& 15, h') := fun t => by rw [show k' + 2 + j = k' + 1 + j + 1 from by omega]; exact t_kd t h'
  have tf : ∀ x y z, (dM L xs zf w (k' + 2 + j) 153 [.int x, .int y, .int z] h').bind dxI = some (tO x y z, h') := fun x y z => by rw [show k' + 2 + j = k' + 1 + j + 1 from by omega]; exact t_of x y z h'
  have ip : (dcV L xs (dM L xs zf w (k' + 2 + j)) 206 [12] (some p0) [] h').bind dxI = some (isP x0, h') := by rw [show k' + 2 + j = k' + 1 + j + 1 from by omega]; exact ck_isP e0'
  have f23 : ∃ t2, b171_23 L xs zf (dM L xs zf w (k' + 2 + j)) w (some C) (some p0) t h' = some (some (.int t2), h') := by
    unfold b171_23
    rw [so t, Option.bind_some]
    dsimp only
    split
    · rw [so t, Option.bind_some]
      dsimp only
      split
      · exact ⟨_, rfl⟩
      · rw [ip, Option.bind_some]
        dsimp only
        split
        · exact ⟨_, rfl⟩
        · rw [cp t, Option.bind_some]
          dsimp only
          split
          · rw [cp t, Option.bind_some]
            dsimp only
            split
            · exact ⟨_, rfl⟩
            · exact ⟨_, bsq (kd t) (bsq (tf _ _ _) rfl)⟩
          · exact ⟨_, bsq e1' (bsq (rf _ _) rfl)⟩
    · exact ⟨_, bsq (kd t) (bsq (tf _ _ _) rfl)⟩
  obtain ⟨t2, f23⟩ := f23
  refine ⟨t2, h', u', ?_, r2⟩
  rw [zk_v ev.1, show k' + 2 + 1 + j = k' + 2 + j + 1 from by omega, e171]
  show (b171_0 L xs zf (dM L xs zf w (k' + 2 + j)) w (some C) (some p0) h).bind dxI = _
  refine bsq (a := (some (.int t2), h')) ?_ rfl
  unfold b171_0
  refine bsq r1 (bsq (so t) ?_)
  dsimp only
  split
  · exact f23
  · exact bsq e1' (bsq (rf _ _) f23)
end ZR6
