/-! WHAT IS FIXED IS SAID OF ANOTHER HEAP. -/
/-- what h1 fixes outside of Z1 stands in h2 outside of Z2 -/
def sFx (h1 : rm_H) (Z1 : Nat → Prop) (h2 : rm_H) (Z2 : Nat → Prop) : Prop := ∀ p c, hc h1 p = some c → ¬ Z1 p → hc h2 p = some c ∧ ¬ Z2 p
/-- every Method is there and has its number -/
def mNv (h : rm_H) (Z : Nat → Prop) (es : List Nat) : Prop := ∀ m M, es[m]? = some M → ∃ (np loc : Nat) (en : Int32), MB h Z M (Int32.ofNat m) np loc en
section KMO
variable {h1 h2 : rm_H} {Z1 Z2 : Nat → Prop} {sB : rS} {A B : Nat → Int32} {mi : Nat → Nat × Nat × Nat × Nat × Nat} {kc : kCi} {P K M sz np loc nf m kk : Nat} {es : List Nat} {num en : Int32} {mk : Value} {em : Nat → Int64}
theorem PBp_m (f : sFx h1 Z1 h2 Z2) (y : PBp h1 Z1 P) : PBp h2 Z2 P := by
  obtain ⟨vs, a, b⟩ := y
  exact ⟨vs, (f _ _ a b).1, (f _ _ a b).2⟩
theorem MB_m (f : sFx h1 Z1 h2 Z2) (y : MB h1 Z1 M num np loc en) : MB h2 Z2 M num np loc en := by
  obtain ⟨fs, pl, ar, mc, a, b, c, d, e, g, i, j⟩ := y
  exact ⟨fs, pl, ar, mc, (f _ _ a i).1, b, c, d, e, (f _ _ g j).1, (f _ _ a i).2, (f _ _ g j).2⟩
theorem KBk_m (f : sFx h1 Z1 h2 Z2) (y : KBk h1 Z1 K num nf mk) : KBk h2 Z2 K num nf mk := by
  obtain ⟨fs, fl, ar, mc, a, b, c, d, e, i, j⟩ := y
  exact ⟨fs, fl, ar, mc, (f _ _ a i).1, b, c, d, (f _ _ e j).1, (f _ _ a i).2, (f _ _ e j).2⟩
theorem MOw_m (f : sFx h1 Z1 h2 Z2) (y : MOw h1 Z1 M K) : MOw h2 Z2 M K := by
  obtain ⟨fs, a, b, c⟩ := y
  exact ⟨fs, (f _ _ a c).1, b, (f _ _ a c).2⟩
theorem hSe_m (f : sFx h1 Z1 h2 Z2) (y : hSe h1 Z1) : hSe h2 Z2 := by
  obtain ⟨fs, a, b, c⟩ := y
  exact ⟨fs, (f _ _ a c).1, b, (f _ _ a c).2⟩
theorem kBa_m (f : sFx h1 Z1 h2 Z2) (y : kBa sB kc h1 Z1) : kBa sB kc h2 Z2 := fun k h8 h9 h6 => by
  obtain ⟨mk, a⟩ := y k h8 h9 h6
  exact ⟨mk, KBk_m f a⟩
theorem mNv_m (f : sFx h1 Z1 h2 Z2) (y : mNv h1 Z1 es) : mNv h2 Z2 es := fun m M h => by
  obtain ⟨np, loc, en, a⟩ := y m M h
  exact ⟨np, loc, en, MB_m f a⟩
theorem mNu_v (y : mNv h1 Z1 es) : mNu h1 Z1 es := fun m M np loc num en h z => by
  obtain ⟨np', loc', en', a⟩ := y m M h
  obtain ⟨fs, pl, ar, mc, a1, a2, _⟩ := a
  obtain ⟨fs', pl', ar', mc', b1, b2, _⟩ := z
  rw [a1] at b1
  have e : fs = fs' := congrArg Prod.snd (Sum.inr.inj (Option.some.inj b1))
  rw [← e, a2] at b2
  exact (Value.int.inj (Option.some.inj b2)).symm
theorem cEe_m (f : sFx h1 Z1 h2 Z2) (y : cEe sB A B mi h1 Z1 es m) : cEe sB A B mi h2 Z2 es m := by
  obtain ⟨a, Gc, ps, pe, qe, lve, M, num, b1, b2, b3, b4, b5, b6, b7, b8, b9, b10⟩ := y
  exact ⟨a, Gc, ps, pe, qe, lve, M, num, b1, b2, b3, b4, b5, b6, b7, b8, b9, MB_m f b10⟩
theorem kNw_m (f : sFx h1 Z1 h2 Z2) (y : kNw sB kc h1 Z1 M kk em) : kNw sB kc h2 Z2 M kk em := by
  obtain ⟨a, b, K, mk, c, d⟩ := y
  exact ⟨a, b, K, mk, MOw_m f c, KBk_m f d⟩
theorem kNa_m (f : sFx h1 Z1 h2 Z2) (y : kNa sB kc h1 Z1 M kk em) : kNa sB kc h2 Z2 M kk em := by
  obtain ⟨a, b, c, mk, d⟩ := y
  exact ⟨a, b, MOw_m f c, mk, KBk_m f d⟩
theorem sTc_m (f : sFx h1 Z1 h2 Z2) (nv : mNv h1 Z1 es) (y : sTc sB A B mi kc h1 Z1 P es) : sTc sB A B mi kc h2 Z2 P es := by
  obtain ⟨a1, a2, a3, a4, _, a6, a7, a8⟩ := y
  refine ⟨a1, a2, a3, a4, mNu_v (mNv_m f nv), fun m h => cEe_m f (a6 m h), PBp_m f a7, fun q kk m c1 c2 c3 c4 c5 c6 => ?_⟩
  obtain ⟨b1, b2, b3, b4, b5, b6⟩ := a8 q kk m c1 c2 c3 c4 c5 c6
  refine ⟨b1, b2, b3, b4, fun z => ?_, fun z => ?_⟩
  · obtain ⟨em, g⟩ := b5 z
    exact ⟨em, fun M hM => kNw_m f (g M hM)⟩
  · obtain ⟨d, em, g⟩ := b6 z
    exact ⟨d, em, fun M hM => kNa_m f (g M hM)⟩
theorem CB_m (z5 : ¬ Z2 5) (f : sFx h1 Z1 h2 Z2) (y : CB h1 Z1 P A B sz es) : CB h2 Z2 P A B sz es := by
  obtain ⟨vs, ca, oa, ml, ar, cap, m, A0, B0, a1, a2, a3, a4, a5, a6, a7, a8, a9, a10, a11, a12, ⟨mc, l1, l2, l3, l4⟩, n1, n2, n3, n4, n5⟩ := y
  rcases l4 with ⟨r1, r2, r3⟩ | ⟨g, r1, r2, r3, r4⟩
  · exact ⟨vs, ca, oa, ml, ar, cap, m, A0, B0, (f _ _ a1 n1).1, a2, a3, a4, a5, (f _ _ a6 n2).1, (f _ _ a7 n3).1, a8, a9, a10, a11, a12, ⟨mc, (f _ _ l1 n4).1, l2, l3, Or.inl ⟨r1, r2, r3⟩⟩, (f _ _ a1 n1).2, (f _ _ a6 n2).2, (f _ _ a7 n3).2, (f _ _ l1 n4).2, by rw [r1]; exact z5⟩
  · exact ⟨vs, ca, oa, ml, ar, cap, m, A0, B0, (f _ _ a1 n1).1, a2, a3, a4, a5, (f _ _ a6 n2).1, (f _ _ a7 n3).1, a8, a9, a10, a11, a12, ⟨mc, (f _ _ l1 n4).1, l2, l3, Or.inr ⟨g, (f _ _ r1 n5).1, r2, r3, r4⟩⟩, (f _ _ a1 n1).2, (f _ _ a6 n2).2, (f _ _ a7 n3).2, (f _ _ l1 n4).2, (f _ _ r1 n5).2⟩
theorem mMn_m (f : sFx h1 Z1 h2 Z2) (y : mMn sB kc h1 Z1 P es kk m) : mMn sB kc h2 Z2 P es kk m := by
  obtain ⟨a1, a2, a3, a4, a5, a6, a7, a8, a9, M, loc, num, en, b1, b2, b3, vs, b4, b5, b6⟩ := y
  exact ⟨a1, a2, a3, a4, a5, a6, a7, a8, a9, M, loc, num, en, b1, MB_m f b2, KBk_m f b3, vs, (f _ _ b4 b6).1, b5, (f _ _ b4 b6).2⟩
end KMO
/-- the cells of a run -/
def Zr (n : Nat) (sg : cS) (y : Nat) : Prop := ∃ x, x < 6 + 6 * n ∧ adr sg x = y
section KRO
variable {cd cd' : Value} {n n' p : Nat} {sg sg' : cS} {Z T : Nat → Prop} {hB h h' : rm_H} {c : rm_E}
theorem RH_own (q : RH cd n sg Z hB h) : RH cd n sg (Zr n sg) h h := ⟨fr_refl _ _, fun x hx => ⟨(q.2.1 x hx).1, Or.inl ⟨x, hx, rfl⟩⟩, q.2.2.1, q.2.2.2⟩
theorem RH_sFx (q : RH cd n sg Z hB h) : sFx hB Z h (Zr n sg) := fun p c e nz => ⟨fr_old q.1 e nz, fun ⟨x, hx, ex⟩ => by
  have l := hc_lt e
  rcases (q.2.1 x hx).2 with z | z
  · rw [ex] at z; exact nz z
  · rw [ex] at z; omega⟩
theorem RH_in (q : RH cd n sg Z hB h) (q' : RH cd' n' sg' (Zr n sg) h h') : RH cd' n' sg' Z hB h' := by
  have key : ∀ p, Zr n sg p → Z p ∨ 21 + hB.length ≤ p := fun p ⟨x, hx, ex⟩ => by
    have := (q.2.1 x hx).2
    rw [ex] at this
    exact this
  refine ⟨fr_trans q.1 q'.1 (fun p hp z => (key p z).resolve_right (by omega)), fun x hx => ⟨(q'.2.1 x hx).1, ?_⟩, q'.2.2⟩
  rcases (q'.2.1 x hx).2 with z | z
  · exact key _ z
  · exact Or.inr (by have := q.1.1; omega)
theorem RH_stay (q' : RH cd' n' sg' (Zr n sg) h h') (e : hc h p = some c) (nz : ¬ Zr n sg p) : hc h' p = some c ∧ ¬ Zr n' sg' p := ⟨fr_old q'.1 e nz, fun ⟨x, hx, ex⟩ => by
  have l := hc_lt e
  rcases (q'.2.1 x hx).2 with z | z
  · rw [ex] at z; exact nz z
  · rw [ex] at z; omega⟩
/-- what is no cell of the run changes -/
theorem RH_oth (q : RH cd n sg Z hB h) (f : fr T h h') (t1 : ∀ p, T p → p < 21 + hB.length → Z p) (t2 : ∀ p, T p → ¬ Zr n sg p) : RH cd n sg Z hB h' := ⟨fr_trans q.1 f (fun p hp t => t1 p t hp), fun x hx => ⟨fr_old f (q.2.1 x hx).1 (fun z => t2 _ z ⟨x, hx, rfl⟩), (q.2.1 x hx).2⟩, q.2.2⟩
theorem Zr_5 (q : RH cd n sg Z hB h) : ¬ Zr n sg 5 := fun ⟨x, hx, ex⟩ => by
  have := hc_ge (q.2.1 x hx).1
  omega
end KRO
