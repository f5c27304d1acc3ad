/-! BOTH CHECK: put as an expression. -/
section JSW
variable {L : Nat} {xs : Nat → Int32} {zf : Value} {w C Sc M Pl Ph LO HI nk m lv n p q i d lo hi k k2 z W ka kr K l τ px pl ph ne pe pn nn : Nat} {cx : Nat → Nat} {hB h h1 h2 : rm_H} {s0 s s1 s2 : rS} {pt vr gn gn1 a b a1 b1 x y rc t v : Int32} {mv : Value} {ds kl ml es ns ts qs : List Nat} {G : List scN} {u u1 u2 : Nat → Nat} {A B A1 B1 : Nat → Int32} {c : Int64} {X : scN} {f : Nat → Int64} {sl ty : Nat → Int32} {sw : Bool}
/-- the statement of put -/
def JP (L : Nat) (xs : Nat → Int32) (zf : Value) (w : Nat) (cx : Nat → Nat) (C Sc M : Nat) (pt vr : Int32) (mv : Value) (hB : rm_H) (s0 : rS) (nk m Pl Ph LO HI z p n pe ne lo hi ke kr : Nat) (sw : Bool) : Prop := ∀ (j j2 : Nat) (h : rm_H) (s : rS) (ds : List Nat) (G : List scN) (lv : Nat) (gn b : Int32) (u : Nat → Nat) (A B : Nat → Int32), CKJ L xs cx C Sc M pt vr mv hB s0 nk m h s ds G lv gn 0 b u A B → lv + z ≤ 55 → FV s0 G gn lo hi → (∀ i, lo ≤ i → i < hi → s.2.1 53 i = s0.2.1 53 i) → u 2 + 3 * (hi - lo) ≤ 9000 → ∃ t r h' s', (dcV L xs (dM L xs zf w (ke + j)) 186 [13] (some C) [va_rf (some p), va_rf (some pe), .int (rd_01 sw)] h).bind dxI = some (t, h') ∧ rM w (kr + j2) 351 [.ref 36, .int (Int32.ofNat n), .int (Int32.ofNat ne), .int (rd_01 sw)] s = some (some (.int r), s') ∧ SXO L xs cx C Sc M pt vr mv hB s0 nk m Pl Ph LO HI lo hi n ne lv sw G ds gn u A B h s (3 * (hi - lo)) t r h' s'
theorem j_7 {ke : Nat} (IH : JP L xs zf w cx C Sc M pt vr mv hB s0 nk m Pl Ph LO HI z p n pe ne lo hi ke kr true) (e0 : fd hB 12 pn 0 = some (.int 7)) (e8 : fd hB 12 pn 8 = some (.ref p)) (e9 : fd hB 12 pn 9 = some (.ref pe)) (r44 : s0.2.1 44 nn = 7) (r45 : s0.2.1 45 nn = Int32.ofNat n) (r46 : s0.2.1 46 nn = Int32.ofNat ne) (hn : 1 ≤ n ∧ n < 4400) (hne : 1 ≤ ne ∧ ne < 4400) (hnn : nn < 4400) (hlo : lo < hi) (hk2 : 1 ≤ kr) : JX L xs zf w cx C Sc M pt vr mv hB s0 nk m Pl Ph LO HI z 174 343 pn nn lo hi (ke + 1) (kr + 1) := by
  intro j j2 h s ds G lv gn b u A B e hlz fv p53 hz
  obtain ⟨t, r, h', s', q1, q2, gn', a', b', u', A', B', o1, o2, o3, o4, o5, o6, o7⟩ := IH j j2 h s ds G lv gn b u A B e hlz fv p53 hz
  obtain ⟨kh, dl, bh, rk, e57, _, rg, gw⟩ := id e
  obtain ⟨k3, hk3⟩ : ∃ k3, kr + j2 = k3 + 1 := ⟨kr + j2 - 1, by omega⟩
  have cls : (dcV L xs (dM L xs zf w (ke + 1 + j)) 174 [13] (some C) [va_rf (some pn)] h).bind dxI = some (t, h') := by
    rw [ck_v kh, show ke + 1 + j = ke + j + 1 from by omega, e174]
    show (b174_0 L xs zf (dM L xs zf w (ke + j)) w (some C) (some pn) h).bind dxI = _
    refine bsq (a := (some (.int t), h')) ?_ rfl
    unfold b174_0
    exact bsq (fd_I (bh.1.1 _ _ _ (by decide) e0) (by decide)) (inq (by decide) (inq (by decide) (inq (by decide) (inq (by decide) (inq (by decide) (inq (by decide) (inq (by decide) (itq rfl (bsq (fd_R (o := some p) (bh.1.1 _ _ _ (by decide) e8) (by decide)) (bsq (fd_R (o := some pe) (bh.1.1 _ _ _ (by decide) e9) (by decide)) (bsq q1 rfl)))))))))))
  have ref : rM w (kr + 1 + j2) 343 [.ref 36, .int (Int32.ofNat nn)] s = some (some (.int r), fl0 s') := by
    rw [show kr + 1 + j2 = kr + j2 + 1 from by omega, y343]
    show s343_0 (rM w (kr + j2)) w (Int32.ofNat nn) s = _
    unfold s343_0
    refine bsq (a := (7 : Int32)) ((aI_at (i := nn) (by decide) rfl hnn (by decide)).trans (by rw [rk_A rk (by decide), r44])) (inq (by decide) (inq (by decide) (inq (by decide) (inq (by decide) (inq (by decide) (inq (by decide) (inq (by decide) (itq rfl (bsq (a := Int32.ofNat n) ((aI_at (i := nn) (by decide) rfl hnn (by decide)).trans (by rw [rk_A rk (by decide), r45])) (bsq (a := Int32.ofNat ne) ((aI_at (i := nn) (by decide) rfl hnn (by decide)).trans (by rw [rk_A rk (by decide), r46])) (bsq (a := (r, s')) ?_ (bsq (a := (r, fl0 s')) ?_ rfl))))))))))))
    · have q2 : rM w (kr + j2) 351 [.ref 36, .int (Int32.ofNat n), .int (Int32.ofNat ne), .int 1] s = some (some (.int r), s') := q2
      rw [q2]
      rfl
    · rw [hk3, r_344]
      rfl
  by_cases ha : a' = 0
  · subst ha
    obtain ⟨p1, p2, τ, p3, p4⟩ := o7 rfl
    obtain ⟨v1, v2, v3, v4⟩ := p3 rfl
    refine ⟨t, r, h', fl0 s', cls, ref, gn', 0, b', u', A', B', CK_up o1 o1.1 (wF_refl (pl := 0) (ph := 0)) rfl fl0_L (by rw [fl0_64]; exact (o1.2.2.2.2.2.2.1 rfl).2.2.1), o2, o3, o4, o5, r53_trans o6 fl0_r, fun _ => ⟨p1, p2, τ, v1, v3, v4, ?_, ?_, fun SL AA BB s1 s2 => ?_⟩⟩
    · rw [fl0_61, dT_o _ (gTy_lt v1.1) v2]
    · rw [r44]
      exact pf_0 fl0_60 (by decide)
    · obtain ⟨f, hf⟩ : ∃ f, hi - lo = f + 1 := ⟨hi - lo - 1, by omega⟩
      rw [hf]
      exact Or.inr ⟨7, r44, by omega, n, ne, r45, r46, hn.1, hn.2, hne.1, hne.2, p4 SL AA BB f s1 s2 (by omega)⟩
  · exact ⟨t, r, h', fl0 s', cls, ref, gn', a', b', u', A', B', CK_fs o1 ha fl0_L, o2, o3, o4, o5, r53_trans o6 fl0_r, fun z => absurd z ha⟩
end JSW
