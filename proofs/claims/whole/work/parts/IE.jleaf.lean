/-! BOTH DO AN INSTRUCTION: the plain ones. -/
def cNt (n : Nat) (sg : cS) (h : rm_H) (n' : Nat) (sg' : cS) (h' : rm_H) : Prop := zh h' + 2 * pot n sg + 150 * n ≤ zh h + 2 * pot n' sg' + 150 * n' ∧ 64 * h'.length + pot n sg + 384 * n ≤ 64 * h.length + pot n' sg' + 384 * n'
/-- the reference: an instruction fails -/
def sFl (s : rS) (a : Nat) (why : Int32) : rS := rs_wA (rs_wA (rs_wA (rs_w s 84 (s.1 84 + 1)) 91 a why) 92 a 0) 93 a 0
/-- the instruction at p, node q, is done by both -/
def jEx (sB : rS) (A B : Nat → Int32) (mi : Nat → Nat × Nat × Nat × Nat × Nat) (kc : kCi) (L : Nat) (xs : Nat → Int32) (zf : Value) (w P : Nat) (Z : Nat → Prop) (hB : rm_H) (k k2 n cn a d p q : Nat) (sg : cS) (h : rm_H) (s : rS) : Prop := ∃ (h' : rm_H) (n' : Nat) (sg' : cS) (s' : rS) (why : Int32) (om' : oMg) (ka' : kAp) (la' : lAy) (ms' : mSg) (N' : Nat) (D' : Nat → Nat) (x' : Nat → Nat → fDs), dM L xs zf w (k + 12) 251 [.ref 24, .ref (sg.2.2.2.2 a 0), .int (Int32.ofNat p)] h = some (none, h') ∧ rM w (k2 + 12) 388 [.ref 36, .int (Int32.ofNat a), .int (Int32.ofNat (10 * a + d)), .int (Int32.ofNat q)] s = some (some (.int why), s') ∧ RH (.ref P) n' sg' Z hB h' ∧ (ka'.2.2.2 ≤ n' ∧ n ≤ n') ∧ rUn sB A B mi kc om' ka' la' ms' N' (cn + 1) sg' (if why = 0 then s' else sFl s' a why) D' x' ∧ sg'.2.2.2.2 a 0 = sg.2.2.2.2 a 0 ∧ a < ka'.2.2.2 ∧ cNt n sg h n' sg' h'
section JLF
variable {sB : rS} {A B : Nat → Int32} {mi : Nat → Nat × Nat × Nat × Nat × Nat} {kc : kCi} {om om' : oMg} {ka ka' : kAp} {la : lAy} {ms : mSg} {N N' cn : Nat} {sg sg' sg2 : cS} {s s' s2 S1 : rS} {a b d e lo q0 J l t r i n p q k k2 f0 w P L sz lv : Nat} {xs : Nat → Int32} {zf : Value} {Z : Nat → Prop} {hB h h' : rm_H} {es : List Nat} {x : Nat → Nat → fDs} {D : Nat → Nat} {S S0 X : List stE} {v : Int64} {y : Int32}
theorem cNt_of (h1 : CST n sg h sg' h') : cNt n sg h n sg' h' := ⟨by have := h1.1; omega, by have := h1.2; omega⟩
theorem rUn_cn {D' : Nat → Nat} (h : rUn sB A B mi kc om ka la ms N cn sg s D' x) : rUn sB A B mi kc om ka la ms N (cn + 1) sg s D' x := by
  obtain ⟨⟨x1, gi, ⟨clm, mb, tn, n1, n2, n3, n4, n5, n6, n7, ⟨n8, n8b, n8c, n8d⟩, n9⟩, wo⟩, bd⟩ := h
  exact ⟨⟨x1, gi, ⟨clm, mb, tn, n1, n2, n3, n4, n5, n6, n7, ⟨n8, n8b, Nat.le_succ_of_le n8c, n8d⟩, n9⟩, wo⟩, bd⟩
theorem it_f (it : iTm sB A B mi kc om ka la ms N cn sg s D x a d) : (a < 12 ∧ d < 10 ∧ fQ (x a d) ≤ 9090 ∧ fBs (x a d) ≤ 9234 ∧ (fSt (x a d)).length ≤ 1010 ∧ (mi (fMe (x a d))).2.2.2.2 ≤ 16) ∧ rqs sB s ∧ fxR sB s ∧ sg.2.2.1 a 3 = Int32.ofNat (d + 1) ∧ s.2.1 92 a = Int32.ofNat (d + 1) ∧ sg.2.2.2.1 a 8 d = Int32.ofNat (fBs (x a d)) ∧ GI ka.2.2.1 N om.1 om.2.1 om.2.2.1 ∧ (fRe (x a d) (fL (x a d)) ≠ 0 ∧ fRe (x a d) (fL (x a d)) < N) ∧ ka.2.2.1 ≤ 400 := by
  obtain ⟨w, _, _, ⟨hD, ac, d10⟩, vl, rg, nm, _, _, so, _, b1, b2, b3⟩ := it
  have ac12 : ka.2.2.2 ≤ 12 := by obtain ⟨_, _, ⟨_, _, _, _, _, ⟨_, _, z⟩, _⟩, _⟩ := w; exact z
  have ob4 : ka.2.2.1 ≤ 400 := by
    obtain ⟨_, _, ⟨clm, mb, tn, ⟨_, _, n1⟩, _, _, _, ⟨_, _, n2⟩, ⟨_, n3⟩, _⟩, _⟩ := w
    omega
  have q1 : fQ (x a d) ≤ 1010 * 9 := Nat.le_trans b1 (Nat.mul_le_mul_left _ (by omega))
  have q2 : fBs (x a d) ≤ 1026 * 9 := Nat.le_trans b2 (Nat.mul_le_mul_left _ (by omega))
  obtain ⟨_, wa, _⟩ := w.2.2.2.2.2 a ac
  refine ⟨⟨by omega, d10, by omega, by omega, b3, nm.2.2.2.2.2.2.1.1⟩, fun p h1 h2 => w.1.1 p (by omega), w.1, ?_, ?_, vl.1, w.2.1, ⟨(rg.1 _ (Nat.le_refl _)).1, (rg.1 _ (Nat.le_refl _)).2.1⟩, ob4⟩
  · rw [← hD]; exact wa.2.2.1.1
  · rw [← hD]; exact wa.2.2.1.2
/-- both have pushed: the end -/
theorem jEx_p {z c : Nat} {f : Nat → Int32} {h' : rm_H} {ht : Nat} {S' : rS} (hd : dM L xs zf w (k + 12) 251 [.ref 24, .ref (sg.2.2.2.2 a 0), .int (Int32.ofNat p)] h = some (none, h')) (hr : rM w (k2 + 12) 388 [.ref 36, .int (Int32.ofNat a), .int (Int32.ofNat (10 * a + d)), .int (Int32.ofNat q)] s = some (some (.int 0), S')) (rh : RH (.ref P) n (sQ sg a z c f ht) Z hB h') (hn : ka.2.2.2 ≤ n) (ac : a < ka.2.2.2) (ru : rUn sB A B mi kc om' ka la ms N' cn (sQ sg a z c f ht) S' D x) (cs : CST n sg h (sQ sg a z c f ht) h') : jEx sB A B mi kc L xs zf w P Z hB k k2 n cn a d p q sg h s :=
  ⟨h', n, _, S', 0, om', ka, la, ms, N', D, x, hd, hr, rh, ⟨hn, Nat.le_refl _⟩, by rw [if_pos rfl]; exact rUn_cn ru, sQ_P (Or.inl (by decide)), ac, cNt_of cs⟩
theorem val_1 {x1 : Int32} : vAl om ka a 1 (mdV 1 x1) := ⟨Or.inl ⟨rfl, x1, rfl⟩, fun z => absurd (oV_1 x1) z⟩
theorem ec_len {gn' : Int32} (it : iTm sB A B mi kc om ka la ms N cn sg s D x a d) (q4 : q < 4400) (ec : EC sB A B (fMe (x a d)) (mi (fMe (x a d))).1 (mi (fMe (x a d))).2.1 (mi (fMe (x a d))).2.2.1 q (p + 1) (fL (x a d)) (fG (x a d)) gn' t S0) : S0.length < 1010 := by
  obtain ⟨_, _, _, _, _, _, nm, _⟩ := it
  obtain ⟨_, _, S', _, _, pt, hS'⟩ := AD_E nm.2.2.2.2.2.1 nm.2.2.2.2.1 nm.1 q4 ec
  have := nm.2.2.2.2.2.2.2 _ _ _ _ _ _ pt
  rcases hS' with z | ⟨t', _, z⟩ <;> rw [z] at this <;> exact this
/-- a number -/
theorem J_1 (cb : CB hB Z P A B sz es) (rh : RH (.ref P) n sg Z hB h) (hn : ka.2.2.2 ≤ n) (it : iTm sB A B mi kc om ka la ms N cn sg s D x a d) (n7 : sg.2.2.2.1 a 7 d = Int32.ofNat (p + 1)) (q4 : q < 4400) (hw : 10000 ≤ w) (eK : sB.2.1 44 q = Int32.ofNat 1) (hA : A p = 0) (hB' : B p = sB.2.1 54 q) (ec : EC sB A B (fMe (x a d)) (mi (fMe (x a d))).1 (mi (fMe (x a d))).2.1 (mi (fMe (x a d))).2.2.1 q (p + 1) (fL (x a d)) (fG (x a d)) (fGn (x a d)) 1 (fSt (x a d))) : jEx sB A B mi kc L xs zf w P Z hB k k2 n cn a d p q sg h s := by
  obtain ⟨⟨a12, d10, u1, u2, u3, u4⟩, rq, fx, b3, r92, b8, gi, rl, ob4⟩ := it_f it
  have it0 := it
  obtain ⟨_, _, _, ⟨_, ac, _⟩, _, _, _, _, _, so, r93, _⟩ := it0
  obtain ⟨h', z, c, f, e1, e2, e3, e4, e5⟩ := x_0 (L := L) (xs := xs) (zf := zf) (w := w) (k := k + 7) cb rh (by omega) hA so
  have e54 : s.2.1 54 q = sB.2.1 54 q := by rw [fx.1 54 (by decide)]
  obtain ⟨q', bh, om', N', x', ru⟩ := J_psh (v := mdV 1 (s.2.1 54 q)) (S1 := s) (X := []) it rfl gl_r q4 ec (by decide) (fun h _ => absurd h (by decide)) val_1 (fun z => absurd (oV_1 _) z) e3 (by rw [e4, hB', cv_1, e54]) n7 (Or.inl rfl)
  have len := ec_len it q4 ec
  exact jEx_p e1 (act_1 (k := k2 + 8) rq a12 d10 q4 eK bh (by decide) (by omega) r93 (by omega)) e2 hn ac ru e5
end JLF
