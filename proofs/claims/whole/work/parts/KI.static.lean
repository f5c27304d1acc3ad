/-! WHAT A PROGRAM THAT WAS BUILT GIVES: kinds. -/
/-- the cells of a program are none of Z -/
def zDj (h : rm_H) (Z : Nat → Prop) (P : Nat) : Prop := (∀ y ci fs, hc h y = some (.inr (ci, fs)) → ci = 4 ∨ ci = 5 ∨ ci = 7 ∨ ci = 9 ∨ ci = 10 ∨ ci = 11 ∨ ci = 16 → ¬ Z y) ∧ (∀ y cap f, hc h y = some (rfA cap f) → ¬ Z y) ∧ (∀ y n f, hc h y = some (.inl (1, n, .inl f)) → n ≤ 8 → ¬ Z y) ∧ (∀ y m f, hc h y = some (iaA m f) → P ≤ y → ¬ Z y) ∧ ¬ Z 5
/-- kind k as both have it -/
def kQ (L : Nat) (xs : Nat → Int32) (h : rm_H) (s : rS) (kl : List Nat) (k : Nat) (q : Nat × (Nat → Nat) × Nat) : Prop := kl[k]? = some q.2.2 ∧ q.1 ≤ 8 ∧ ∃ (fl ar cap f0 : Nat) (fs : List Nat), fd h 9 q.2.2 4 = some (.ref fl) ∧ aL h fl ar cap fs ∧ fs.length = q.1 ∧ s.2.1 64 k = Int32.ofNat f0 ∧ s.2.1 64 (k + 1) = Int32.ofNat (f0 + q.1) ∧ f0 + q.1 ≤ 64 ∧ ∀ (i d : Nat), fs[i]? = some d → dSn L xs h d (s.2.2 67 (f0 + i)) (Int32.ofNat i) (cT (q.2.1 i)) ∧ tyc s (s.2.1 69 (f0 + i)) (q.2.1 i)
section STK
variable {L : Nat} {xs : Nat → Int32} {w P k K nk m M kk : Nat} {cx : Nat → Nat} {h : rm_H} {s : rS} {Z : Nat → Prop} {kl ml es : List Nat} {kc : kCi} {q : Nat × (Nat → Nat) × Nat} {t : Nat} {c : Int64} {so : Int32}
theorem fd_o {ci p j : Nat} {v : Value} (e : fd h ci p j = some v) : ∃ fs, hc h p = some (.inr (ci, fs)) ∧ fs[j]? = some v := by
  unfold fd at e
  split at e
  · rename_i c' fs hp
    split at e
    · rename_i ec
      subst ec
      exact ⟨fs, hp, e⟩
    · cases e
  · cases e
theorem aL_z {l ar cap : Nat} {es : List Nat} (zd : zDj h Z P) (e : aL h l ar cap es) : ¬ Z l ∧ ¬ Z ar := by
  obtain ⟨mc, l1, _, _, l4⟩ := e
  refine ⟨zd.1 _ _ _ l1 (Or.inr (Or.inl rfl)), ?_⟩
  rcases l4 with ⟨r1, _⟩ | ⟨g, r1, _⟩
  · rw [r1]; exact zd.2.2.2.2
  · exact zd.2.1 _ _ _ r1
theorem nS_z {q : Nat} {c : Int64} (zd : zDj h Z P) (e : nS L xs h q c) : nSz L xs h Z q c := by
  obtain ⟨n, g, ⟨ci, a, fs, f, y1, y2, y3, y4, y5, y6, y7, y8⟩, n8, ch, ec⟩ := e
  refine ⟨n, g, ⟨ci, a, fs, f, y1, y2, y3, y4, y5, y7, ?_, ?_⟩, n8, ch, ec⟩
  · by_cases hq : q < 21
    · exact Or.inl hq
    · rw [rs_look (by omega)] at y2
      have : ci = 7 ∨ ci = 16 := by
        have := List.contains_iff_mem.mp y1
        simpa using this
      exact Or.inr (zd.1 _ _ _ (hc_of (by omega) y2) (by omega))
  · by_cases ha : a < 21
    · exact Or.inl ha
    · rw [rs_look (by omega)] at y5
      exact Or.inr (zd.2.2.1 _ _ _ (hc_of (by omega) y5) n8)
/-- every kind has its numbers -/
theorem kQ_of (je : JE L xs cx h s nk kl ml) (hK : kl[k]? = some K) : ∃ q, kQ L xs h s kl k q := by
  obtain ⟨_, _, ⟨fl, ar, cap, fs, f0, a1, a2, a3, a4, a5, a6, a7, a8⟩, _⟩ := je.2.2.2.2 k K hK
  obtain ⟨tt, t1, t2⟩ := ex_list (P := fun i t => ∀ d, fs[i]? = some d → dSn L xs h d (s.2.2 67 (f0 + i)) (Int32.ofNat i) (cT t) ∧ tyc s (s.2.1 69 (f0 + i)) t) fs.length (fun i hi => by
    obtain ⟨t, b1, b2, _⟩ := a8 i (fs[i]'hi) (List.getElem?_eq_getElem hi)
    refine ⟨t, fun d hd => ?_⟩
    rw [List.getElem?_eq_getElem hi] at hd
    cases hd
    exact ⟨b1, b2⟩)
  refine ⟨(fs.length, fun i => tt.getD i 0, K), hK, a5, fl, ar, cap, f0, fs, a1, a2, rfl, a3, a4, a6, fun i d hd => ?_⟩
  have lt := (List.getElem?_eq_some_iff.mp hd).1
  have hi : i < tt.length := by omega
  have e : tt[i]? = some (tt.getD i 0) := by
    rw [List.getElem?_eq_getElem hi, List.getD_eq_getElem?_getD, List.getElem?_eq_getElem hi]
    rfl
  exact t2 i _ e d hd
/-- all of them -/
theorem kc_of (je : JE L xs cx h s nk kl ml) : ∃ kc : kCi, (∀ k, k < nk → kQ L xs h s kl k (kc k)) ∧ ∀ k, nk ≤ k → (kc k).1 = 9 := by
  have key : ∀ k, ∃ q : Nat × (Nat → Nat) × Nat, (k < nk → kQ L xs h s kl k q) ∧ (nk ≤ k → q.1 = 9) := by
    intro k
    by_cases hk : k < nk
    · have lt : k < kl.length := by rw [je.2.1]; exact hk
      obtain ⟨q, hq⟩ := kQ_of je (List.getElem?_eq_getElem lt)
      exact ⟨q, fun _ => hq, fun z => by omega⟩
    · exact ⟨(9, fun _ => 0, 0), fun z => absurd z hk, fun _ => rfl⟩
  exact ⟨fun k => Classical.choose (key k), fun k hk => (Classical.choose_spec (key k)).1 hk, fun k hk => (Classical.choose_spec (key k)).2 hk⟩
theorem kRl_nk (je : JE L xs cx h s nk kl ml) (hk : kRl s k) : k < nk := by
  obtain ⟨h1, h2⟩ := hk
  have l4 := je.2.2.2.1
  have l3 := je.2.2.1
  rw [l4, of_int (by omega)] at h2
  omega
theorem kQ_fd (je : JE L xs cx h s nk kl ml) (kq : ∀ k, k < nk → kQ L xs h s kl k (kc k)) : kFd s kc := by
  intro k c f0 f tf ⟨f1, a1, a2, a3, a4, a5, a6, a7, a8, a9⟩
  obtain ⟨b1, b2, fl, ar, cap, g0, fs, b3, b4, b5, b6, b7, b8, b9⟩ := kq k (kRl_nk je a9)
  have e0 : f0 = g0 := ofn_inj (by omega) (by omega) (a1.symm.trans b6)
  have e1 : f1 = g0 + (kc k).1 := ofn_inj (by omega) (by omega) (a2.symm.trans b7)
  subst e0
  have lt : f - f0 < fs.length := by omega
  obtain ⟨c1, c2⟩ := b9 (f - f0) (fs[f - f0]'lt) (List.getElem?_eq_getElem lt)
  rw [show f0 + (f - f0) = f from by omega] at c2
  have := tyc_u a8 c2
  refine ⟨by omega, this.symm, ?_⟩
  obtain ⟨_, _, _, _, dt⟩ := a8
  exact dt
theorem em_of (k' : kAp) {y : Nat} {t : Nat} (e : s.2.1 60 y = rTp t) (dt : dTy t = true) : vTy k' 0 t (if s.2.1 60 y = 0 then mdV 1 0 else 0) ∧ oV (if s.2.1 60 y = 0 then mdV 1 0 else 0) = 0 ∧ cvl (if s.2.1 60 y = 0 then mdV 1 0 else 0) = 0 := by
  have t72 := dTy_lt dt
  have r := (rTp_1 t t72 (dTy_g dt)).2.1
  have c3 : t = 1 ∨ (8 ≤ t ∧ t % 8 < 6) := by
    have : ∀ t, t < 72 → dTy t = true → t = 1 ∨ (8 ≤ t ∧ t % 8 < 6) := by decide +kernel
    exact this t t72 dt
  rw [e]
  by_cases h1 : t = 1
  · rw [if_pos (r.mpr h1)]
    exact ⟨Or.inl ⟨h1, 0, rfl⟩, oV_1 0, cv_1 0⟩
  · rw [if_neg (fun z => h1 (r.mp z))]
    refine ⟨?_, oV_0, cv_0⟩
    have c3 := c3.resolve_left h1
    by_cases h5 : t % 8 = 5
    · exact Or.inr (Or.inr (Or.inr (Or.inl ⟨c3.1, h5, Or.inl rfl⟩)))
    · exact Or.inr (Or.inr (Or.inl ⟨c3.1, by omega, Or.inl rfl⟩))
/-- the fields of a kind, as both begin them -/
theorem kQ_em (k8 : k < 8) (kq : kQ L xs h s kl k (kc k)) : ∃ em, KFR s k (kc k).1 em ∧ ∀ f, f < (kc k).1 → ((∀ k' : kAp, vTy k' 0 ((kc k).2.1 f) (em f)) ∧ oV (em f) = 0 ∧ cvl (em f) = 0) ∧ dTy ((kc k).2.1 f) = true := by
  obtain ⟨b1, b2, fl, ar, cap, f0, fs, b3, b4, b5, b6, b7, b8, b9⟩ := kq
  have ty : ∀ f, f < (kc k).1 → tyc s (s.2.1 69 (f0 + f)) ((kc k).2.1 f) := fun f hf => by
    have lt : f < fs.length := by omega
    exact (b9 f (fs[f]'lt) (List.getElem?_eq_getElem lt)).2
  have yy : ∀ f, ∃ y : Nat, f < (kc k).1 → y < 2000 ∧ s.2.1 69 (f0 + f) = Int32.ofNat y ∧ s.2.1 60 y = rTp ((kc k).2.1 f) ∧ dTy ((kc k).2.1 f) = true := fun f => by
    by_cases hf : f < (kc k).1
    · obtain ⟨y, c1, c2, c3, c4⟩ := ty f hf
      exact ⟨y, fun _ => ⟨c1, c2, c3, c4⟩⟩
    · exact ⟨0, fun z => absurd z hf⟩
  refine ⟨fun f => if s.2.1 60 (Classical.choose (yy f)) = 0 then mdV 1 0 else 0, ⟨k8, f0, b6, b7, b8, b2, fun f hf => ?_⟩, fun f hf => ?_⟩
  · obtain ⟨c1, c2, _⟩ := Classical.choose_spec (yy f) hf
    exact ⟨_, c1, c2, rfl⟩
  · obtain ⟨c1, c2, c3, c4⟩ := Classical.choose_spec (yy f) hf
    exact ⟨⟨fun k' => (em_of k' c3 c4).1, (em_of (fun _ => 0, fun _ => 0, 0, 0) c3 c4).2⟩, c4⟩
end STK
