/-! THE INVARIANT OF ALL CALLS. -/
/-- cells of the text and of the reference -/
def zO (b0 y : Nat) : Prop := y = 22 ∨ y = b0 ∨ (36 ≤ y ∧ y ≤ 114)
def zX (b0 n : Nat) (sg : cS) (y : Nat) : Prop := Zr n sg y ∨ zO b0 y
/-- a program that was built, as all calls use it -/
def stQ (L : Nat) (xs : Nat → Int32) (sB : rS) (A B : Nat → Int32) (mi : Nat → Nat × Nat × Nat × Nat × Nat) (kc : kCi) (h : rm_H) (Z : Nat → Prop) (P : Nat) (es : List Nat) (sz kk mm : Nat) : Prop := sTc sB A B mi kc h Z P es ∧ mNv h Z es ∧ CB h Z P A B sz es ∧ kBa sB kc h Z ∧ mMn sB kc h Z P es kk mm ∧ kSh L xs sB kc h Z P ∧ mSh L xs sB h Z es ∧ pgW sB h Z P ∧ ∃ nk : Nat, sB.1 32 = Int32.ofNat nk ∧ nk ≤ 8 ∧ kF (sB.2.2 62) 1298229614 nk 0 = some kk
def fxI (sB s : rS) : Prop := ∀ p, p = 24 ∨ p = 25 ∨ p = 32 ∨ p = 38 ∨ p = 42 → s.1 p = sB.1 p
/-- built or not, running or not -/
def iRn (L : Nat) (xs : Nat → Int32) (h : rm_H) (s : rS) (Z : Nat → Prop) (bp : Option Nat) (cdv : Value) (n : Nat) (sg : cS) (j : Nat) : Prop := (bp = none ∧ s.1 73 = 0 ∧ s.1 74 = 0) ∨ ∃ (P : Nat) (sB : rS) (A B : Nat → Int32) (mi : Nat → Nat × Nat × Nat × Nat × Nat) (kc : kCi) (es : List Nat) (sz kk mm : Nat), bp = some P ∧ s.1 73 = 1 ∧ fxR sB s ∧ fxI sB s ∧ stQ L xs sB A B mi kc h Z P es sz kk mm ∧ (s.1 74 = 0 ∨ (s.1 74 = 1 ∧ cdv = .ref P ∧ ∃ (om : oMg) (ka : kAp) (la : lAy) (ms : mSg) (N cn : Nat) (D : Nat → Nat) (x : Nat → Nat → fDs), ka.2.2.2 ≤ n ∧ cn ≤ 200 * j ∧ rUn sB A B mi kc om ka la ms N cn sg s D x))
/-- the text by both -/
def iTx (h : rm_H) (s : rS) (bp : Option Nat) (fn fp : Int32) (b0 n0 m0 : Nat) : Prop := ∃ (ml0 : Int32) (f0 : Nat → Int32), tX h bp fn fp b0 n0 m0 ml0 f0 ∧ n0 ≤ 2000 ∧ s.1 2 = Int32.ofNat n0 ∧ (∀ i, i < n0 → s.2.1 37 i = f0 i &&& 255) ∧ 16 ≤ m0
/-- what was told by both -/
def iTo (h : rm_H) (s : rS) (b m j : Nat) : Prop := ∃ (c : Nat) (st dep : Int32) (mk sa sc : Nat → Int32) (sn : Nat), oTx h s b m c st dep mk sa sc ∧ cMk st mk sn ∧ sn ≤ j ∧ (b = 32 ∨ 115 ≤ b) ∧ 16 ≤ m
/-- the cells of a run -/
def iWo (h : rm_H) (s : rS) (cdv : Value) (n : Nat) (sg : cS) : Prop := RH cdv n sg (Zr n sg) h h ∧ (∀ y, Zr n sg y → (24 ≤ y ∧ y < 30) ∨ 115 ≤ y) ∧ aOk sg ∧ (s.1 74 = 0 → ∀ q, 8 ≤ q → q ≤ 15 → sg.1 q = 0)
/-- all of it, but for the costs -/
def iAl (L : Nat) (xs : Nat → Int32) (j : Nat) (h : rm_H) (s : rS) (bp : Option Nat) (fn fp : Int32) (b0 n0 m0 b m : Nat) (cdv : Value) (n : Nat) (sg : cS) : Prop := iTx h s bp fn fp b0 n0 m0 ∧ iF fn fp s ∧ wdR (s.2.2 39) ∧ uA h ∧ iTo h s b m j ∧ b ≠ b0 ∧ iWo h s cdv n sg ∧ iRn L xs h s (Zb (zX b0 n sg) b) bp cdv n sg j
section INV
variable {L : Nat} {xs : Nat → Int32} {j : Nat} {h h1 h2 : rm_H} {s s' sB : rS} {bp : Option Nat} {fn fp : Int32} {b0 n0 m0 b m n P : Nat} {cdv : Value} {sg : cS} {A B : Nat → Int32} {mi : Nat → Nat × Nat × Nat × Nat × Nat} {kc : kCi} {Z Z1 Z2 : Nat → Prop} {es : List Nat} {sz kk mm y : Nat}
theorem stQ_m (z5 : ¬ Z2 5) (f : sFx h1 Z1 h2 Z2) (y : stQ L xs sB A B mi kc h1 Z1 P es sz kk mm) : stQ L xs sB A B mi kc h2 Z2 P es sz kk mm := by
  obtain ⟨a1, a2, a3, a4, a5, a6, a7, a8, a9⟩ := y
  exact ⟨sTc_m f a2 a1, mNv_m f a2, CB_m z5 f a3, kBa_m f a4, mMn_m f a5, kSh_m z5 f a6, mSh_m z5 f a7, pgW_m z5 f a8, a9⟩
theorem iRn_m (z5 : ¬ Z2 5) (f : sFx h1 Z1 h2 Z2) (y : iRn L xs h1 s Z1 bp cdv n sg j) : iRn L xs h2 s Z2 bp cdv n sg j := by
  rcases y with y | ⟨P, sB, A, B, mi, kc, es, sz, kk, mm, a1, a2, a3, a4, a5, a6⟩
  · exact Or.inl y
  · exact Or.inr ⟨P, sB, A, B, mi, kc, es, sz, kk, mm, a1, a2, a3, a4, stQ_m z5 f a5, a6⟩
theorem iRn_j {j' : Nat} (hj : j ≤ j') (y : iRn L xs h s Z bp cdv n sg j) : iRn L xs h s Z bp cdv n sg j' := by
  rcases y with y | ⟨P, sB, A, B, mi, kc, es, sz, kk, mm, a1, a2, a3, a4, a5, a6⟩
  · exact Or.inl y
  · refine Or.inr ⟨P, sB, A, B, mi, kc, es, sz, kk, mm, a1, a2, a3, a4, a5, ?_⟩
    rcases a6 with a6 | ⟨b1, b2, om, ka, la, ms, N, cn, D, x, b3, b4, b5⟩
    · exact Or.inl a6
    · exact Or.inr ⟨b1, b2, om, ka, la, ms, N, cn, D, x, b3, Nat.le_trans b4 (Nat.mul_le_mul_left 200 hj), b5⟩
theorem Fr_hc (f : Fr h1 h2) (hy : y < 36 ∨ 115 ≤ y) : hc h2 y = hc h1 y := by
  unfold hc
  by_cases c : 21 ≤ y
  · rw [if_pos c, if_pos c]
    exact f.2.2 _ (by omega)
  · rw [if_neg c, if_neg c]
theorem Fr_sFx (f : Fr h1 h2) : sFx h1 (Zb (zX b0 n sg) b) h2 (Zb (zX b0 n sg) b) := fun y e he nz => by
  refine ⟨?_, nz⟩
  rw [Fr_hc f]
  · exact he
  · by_cases c : 36 ≤ y ∧ y ≤ 114
    · exact absurd (Or.inl (Or.inr (Or.inr (Or.inr c)))) nz
    · omega
theorem iZ_5 (hz : ∀ y, Zr n sg y → (24 ≤ y ∧ y < 30) ∨ 115 ≤ y) (hb0 : b0 = 23 ∨ 115 ≤ b0) (hb : b = 32 ∨ 115 ≤ b) : ¬ Zb (zX b0 n sg) b 5 := fun z => by
  rcases z with (z | z | z | z) | z | z
  · have := hz _ z
    omega
  · omega
  · omega
  · omega
  · omega
  · omega
theorem iZx_5 (hz : ∀ y, Zr n sg y → (24 ≤ y ∧ y < 30) ∨ 115 ≤ y) (hb0 : b0 = 23 ∨ 115 ≤ b0) : ¬ zX b0 n sg 5 := fun z => by
  rcases z with z | z | z | z
  · have := hz _ z
    omega
  · omega
  · omega
  · omega
theorem RS_k (e : ∀ y, 36 ≤ y → y ≤ 114 → hc h2 y = hc h1 y) (r : RS h1 s) : RS h2 s := by
  have k : ∀ q, 15 ≤ q → q ≤ 93 → h2[q]? = h1[q]? := fun q q1 q2 => by
    have := e (q + 21) (by omega) (by omega)
    unfold hc at this
    rw [if_pos (by omega), if_pos (by omega), Nat.add_sub_cancel] at this
    exact this
  exact ⟨by rw [k 15 (by decide) (by decide)]; exact r.1, fun p p1 p2 => by rw [k (p - 21) (by omega) (by omega)]; exact r.2 p p1 p2⟩
theorem tX_f {ml : Int32} {f : Nat → Int32} (e : ∀ y, y = 21 ∨ y = 22 ∨ y = b0 → hc h2 y = hc h1 y) (hl : 94 ≤ h2.length) (y : tX h1 bp fn fp b0 n0 m0 ml f) : tX h2 bp fn fp b0 n0 m0 ml f := by
  obtain ⟨a1, ⟨s1, s2, s3, s4, s5, s6, s7, s8⟩, a3, a4⟩ := y
  have k : ∀ y, 21 ≤ y → (y = 21 ∨ y = 22 ∨ y = b0) → h2[y - 21]? = h1[y - 21]? := fun y hy hh => by
    have := e y hh
    unfold hc at this
    rw [if_pos hy, if_pos hy] at this
    exact this
  refine ⟨?_, ⟨s1, s2, s3, s4, s5, s6, ?_, ?_⟩, a3, hl⟩
  · unfold iB
    have := k 21 (by decide) (Or.inl rfl)
    rw [this]
    exact a1
  · rw [k 22 (by decide) (Or.inr (Or.inl rfl))]
    exact s7
  · rw [k b0 s2 (Or.inr (Or.inr rfl))]
    exact s8
theorem oTx_f {c : Nat} {st dep : Int32} {mk sa sc : Nat → Int32} (e : ∀ y, (30 ≤ y ∧ y ≤ 35) ∨ y = b → hc h2 y = hc h1 y) (ot : oTx h1 s b m c st dep mk sa sc) : oTx h2 s b m c st dep mk sa sc := by
  obtain ⟨h30, h33, h34, h35, s111, n, ml, f, ⟨s1, s2, s3, s4, s5, s6, s7, s8⟩, hl⟩ := ot
  have k : ∀ y, 21 ≤ y → ((30 ≤ y ∧ y ≤ 35) ∨ y = b) → h2[y - 21]? = h1[y - 21]? := fun y hy hh => by
    have := e y hh
    unfold hc at this
    rw [if_pos hy, if_pos hy] at this
    exact this
  exact ⟨by rw [e 30 (by omega)]; exact h30, by rw [e 33 (by omega)]; exact h33, by rw [e 34 (by omega)]; exact h34, by rw [e 35 (by omega)]; exact h35, s111, n, ml, f, ⟨s1, s2, s3, s4, s5, s6, by rw [k 31 (by decide) (by omega)]; exact s7, by rw [k b s2 (Or.inr rfl)]; exact s8⟩, hl⟩
theorem RH_f (e : ∀ y, Zr n sg y → hc h2 y = hc h1 y) (r : RH cdv n sg (Zr n sg) h1 h1) : RH cdv n sg (Zr n sg) h2 h2 := ⟨fr_refl _ _, fun x hx => ⟨by rw [e _ ⟨x, hx, rfl⟩]; exact (r.2.1 x hx).1, Or.inl ⟨x, hx, rfl⟩⟩, r.2.2.1, r.2.2.2⟩
/-- what the reference writes is nothing of it -/
theorem iAl_F (f : Fr h1 h2) (r : RS h2 s) (y : iAl L xs j h1 s bp fn fp b0 n0 m0 b m cdv n sg) : iAl L xs j h2 s bp fn fp b0 n0 m0 b m cdv n sg := by
  obtain ⟨⟨ml0, f0, t1, t2, t3, t4, t5⟩, a2, a3, a4, ⟨c, st, dep, mk, sa, sc, sn, o1, o2, o3, o4, o5⟩, a6, ⟨w1, w2, w3, w4⟩, a8⟩ := y
  have hb0 := t1.2.2.1
  refine ⟨⟨ml0, f0, tX_f (fun y hy => Fr_hc f (by omega)) (by rw [f.1]; exact t1.2.2.2) t1, t2, t3, t4, t5⟩, a2, a3, ?_, ⟨c, st, dep, mk, sa, sc, sn, oTx_f (fun y hy => Fr_hc f (by omega)) o1, o2, o3, o4, o5⟩, a6, ⟨RH_f (fun y hy => Fr_hc f (by have := w2 y hy; omega)) w1, w2, w3, w4⟩, iRn_m (iZ_5 w2 hb0 o4) (Fr_sFx f) a8⟩
  refine uA_of (by rw [f.1]; exact Nat.le_refl _) (fun l fs e => ?_) a4
  by_cases c : 36 ≤ l ∧ l ≤ 114
  · exfalso
    unfold hc at e
    rw [if_pos (by omega)] at e
    by_cases c36 : l = 36
    · rw [c36] at e
      have := r.1
      rw [this] at e
      cases e
    · have := r.2 l (by omega) (by omega)
      rw [this] at e
      have e := Option.some.inj e
      unfold rs_cell at e
      split at e <;> cases e
  · rw [Fr_hc f (by omega)] at e
    exact e
end INV
