/-! START BY BOTH: the world. -/
/-- Main, as both have it -/
def mMn (sB : rS) (kc : kCi) (hB : rm_H) (Z : Nat → Prop) (P : Nat) (es : List Nat) (kk m : Nat) : Prop := kk < 8 ∧ sB.2.1 66 kk = 1 ∧ sB.2.1 65 kk = Int32.ofNat m ∧ m < 72 ∧ sB.2.1 70 m = 0 ∧ sB.2.1 71 m = Int32.ofNat kk ∧ mRl sB m ∧ pmT sB m [] ∧ (∃ em, KFR sB kk (kc kk).1 em ∧ ∀ f, f < (kc kk).1 → ((∀ k' : kAp, vTy k' 0 ((kc kk).2.1 f) (em f)) ∧ oV (em f) = 0 ∧ cvl (em f) = 0) ∧ dTy ((kc kk).2.1 f) = true) ∧ ∃ (M loc : Nat) (num en : Int32), es[m]? = some M ∧ MB hB Z M num 0 loc en ∧ KBk hB Z (kc kk).2.2 (Int32.ofNat kk) (kc kk).1 (.ref M) ∧ ∃ vs, hc hB P = some (.inr (4, vs)) ∧ vs[6]? = some (.ref (kc kk).2.2) ∧ ¬ Z P
section KST
variable {sB : rS} {A B : Nat → Int32} {mi : Nat → Nat × Nat × Nat × Nat × Nat} {kc : kCi} {om om' : oMg} {ka ka' : kAp} {la : lAy} {ms : mSg} {N N' cn : Nat} {sg sg' sg2 : cS} {s s' s2 S1 : rS} {a b d e lo q0 J l t r i n p q k k2 f0 w P L sz lv : Nat} {xs : Nat → Int32} {zf : Value} {Z : Nat → Prop} {hB h h' : rm_H} {es : List Nat} {x : Nat → Nat → fDs} {D : Nat → Nat} {S S0 X : List stE} {v : Int64} {y : Int32}
variable {cl mb kk m : Nat} {cd : Value} {i1 i2 : Int32}
theorem w_start (mnu : mNu hB Z es) (mn : mMn sB kc hB Z P es kk m) (fx : fxR sB s) (s73 : s.1 73 ≠ 0) (hm : rM w (k2 + 4) 328 [.ref 36, .long 1298229614] s = some (some (.int (Int32.ofNat kk)), s)) (q : RH cd n sg Z hB h) (ao : aOk sg) (e1 : i1 = Int32.ofNat cl) (cl4 : cl ≤ 400) (e2 : i2 = Int32.ofNat mb) (m1 : 1 ≤ mb) (m6 : mb ≤ 6) (room : (kc kk).1 + 1 ≤ cl) (hw : 2000 ≤ w) : ∃ (h' : rm_H) (n' : Nat) (sg' : cS) (s' : rS) (om' : oMg) (ka' : kAp) (la' : lAy) (ms' : mSg) (N' : Nat) (x' : Nat → Nat → fDs), dM L xs zf w (k + 5) 224 [.ref 24, .ref P, .int i1, .int i2] h = some (none, h') ∧ rM w (k2 + 5) 372 [.ref 36, .int i1, .int i2] s = some (some (.int 1), s') ∧ RH (.ref P) n' sg' Z hB h' ∧ (ka'.2.2.2 ≤ n' ∧ n ≤ n') ∧ rUn sB A B mi kc om' ka' la' ms' N' 0 sg' s' (fun _ => 0) x' ∧ cNt n sg h n' sg' h' := by
  obtain ⟨k8, h66, h65, m72, m70, m71, mrl, pm, ⟨em, kf, hem⟩, M, loc, num, en, hM, mbm, kb, vs, p1, p2, nP⟩ := mn
  have nf8 : (kc kk).1 ≤ 8 := by obtain ⟨_, _, _, _, _, y, _⟩ := kf; exact y
  have enum : num = Int32.ofNat m := mnu m M _ _ num _ hM mbm
  obtain ⟨p0, y77, y77', yp, _⟩ := pm
  have kfs : KFR s kk (kc kk).1 em := by
    obtain ⟨y1, f0, y2, y3, y4, y5, y6⟩ := kf
    refine ⟨y1, f0, by rw [fx.1 64 (by decide)]; exact y2, by rw [fx.1 64 (by decide)]; exact y3, y4, y5, fun f hf => ?_⟩
    obtain ⟨w, w1, w2, w3⟩ := y6 f hf
    exact ⟨w, w1, by rw [fx.1 69 (by decide)]; exact w2, by rw [fx.1 60 (by decide)]; exact w3⟩
  obtain ⟨h', n', sg0, q0, g, cf, c1, c2, ⟨c3, c3b⟩, c4, ⟨cf1, cf2, cf3⟩, ⟨cg1, cg2⟩, c5⟩ := k_224 (L := L) (xs := xs) (zf := zf) (w := w) (k := k) (i1 := i1) (i2 := i2) (cl := cl) ⟨vs, p1, nP⟩ ⟨vs, p1, p2⟩ nP kb mbm q ao e1 cl4 room nf8 hw
  have yp' : p0 + 0 ≤ 440 := yp
  obtain ⟨g0, us, br, wl, bt, ag, Lo, r1, o2, o3, o4, o5, r2, r5, r6, r7⟩ := r_372 (w := w) (k := k2) (s := s) (i1 := i1) (i2 := i2) (cl := cl) (mb := mb) (nf := (kc kk).1) (m := m) (p0 := p0) s73 e1 (by omega) cl4 e2 m1 m6 hm kfs (by rw [fx.1 65 (by decide)]; exact h65) m72 (by rw [fx.1 77 (by decide)]; exact y77) (by rw [fx.1 77 (by decide)]; exact y77') (by omega) (by omega) room
  have ea : sg0.1 = (sA1 (stNm i1 i2, sg.2) 0 (kc kk).1 cf).1 := by
    rcases c4 with ⟨_, _, y⟩ | ⟨_, _, y⟩ <;> rw [y] <;> rfl
  have eb : sg0.2.1 = (sA1 (stNm i1 i2, sg.2) 0 (kc kk).1 cf).2.1 := by
    rcases c4 with ⟨_, _, y⟩ | ⟨_, _, y⟩ <;> rw [y] <;> rfl
  have ec : ∀ c j, c ≠ 0 → sg0.2.2.1 c j = sg.2.2.1 c j ∧ sg0.2.2.2.1 c j = sg.2.2.2.1 c j ∧ sg0.2.2.2.2 c j = sg.2.2.2.2 c j := by
    intro c j hc
    rcases c4 with ⟨_, _, y⟩ | ⟨y0, _, y⟩
    · rw [y]; exact ⟨rfl, rfl, rfl⟩
    · rw [y]
      have e : c ≠ n := fun z => hc (z.trans y0.symm)
      exact ⟨if_neg e, if_neg e, if_neg e⟩
  have ed : sg0.2.2.1 0 0 = Int32.ofNat 0 ∧ 64 ≤ sg0.2.2.2.2 0 13 ∧ sg0.2.2.2.2 0 13 ≤ 40000 := by
    rcases c4 with ⟨_, _, y⟩ | ⟨y0, _, y⟩
    · rw [y]; exact ao 0 (by decide)
    · rw [y, ← y0]
      refine ⟨rfl, ?_, ?_⟩
      · show (64 : Nat) ≤ 64
        decide
      · show (64 : Nat) ≤ 40000
        decide
  obtain ⟨om', ka', la', ms', N', x', ru, e1k⟩ := rUn_st (sB := sB) (A := A) (B := B) (mi := mi) (kc := kc) (s := stR s i1 i2) (sg := (stNm i1 i2, sg.2)) (cl := cl) (mb := mb) (kk := kk) (m := m) (em := em) (sg0 := sg0) (cf := cf) (g0 := g0) (us := us) (br := br) (wl := wl) (bt := bt) (ag := ag) (g := g) (Lo := Lo) fx cl4 m1 m6 e1 e2 (fun j h1 h2 => by
    show (if j = 5 then i1 else if j = 6 then i2 else 0) = 0
    rw [if_neg (by omega), if_neg (by omega)]) e1 e2 rfl rfl (fun j h1 h2 h3 h4 => by
    have : j = 75 ∨ j = 76 ∨ j = 77 ∨ j = 80 ∨ j = 81 ∨ j = 82 ∨ j = 83 ∨ j = 84 := by omega
    rcases this with rfl | rfl | rfl | rfl | rfl | rfl | rfl | rfl <;> rfl) ao k8 h66 nf8 room hem ⟨p0, y77, y77', yp, fun i t ht => by simp at ht⟩ m72 m71 m70 mrl ea eb ec ed (fun j h1 h2 => cf2 j h1 (by omega)) (fun j hj => cf3 j (Or.inr (by omega))) o2 o3 o4 o5 (by rw [cg1, enum]) r2 r5 r6 r7 (fun i hi => cg2 i (by omega))
  exact ⟨h', n', _, _, om', ka', la', ms', N', x', c1, r1, c2, ⟨by omega, c3b⟩, ru, c5⟩
end KST
