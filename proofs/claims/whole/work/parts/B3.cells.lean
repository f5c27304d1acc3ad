/-! CELLS BY PLACE, what a step leaves alone. -/
/-- the cell at place p, if it is a made one -/
def hc (h : rm_H) (p : Nat) : Option rm_E := if 21 ≤ p then h[p - 21]? else none
/-- from h to h' only places of P change; objects stay of their class, arrays arrays, Strings and arrays of bytes as they are -/
def fr (P : Nat → Prop) (h h' : rm_H) : Prop := h.length ≤ h'.length ∧ (∀ p, p < 21 + h.length → ¬ P p → hc h' p = hc h p) ∧ (∀ p ci fs, hc h p = some (.inr (ci, fs)) → ∃ fs2, hc h' p = some (.inr (ci, fs2)) ∧ (ci = 7 ∨ ci = 16 → fs2 = fs)) ∧ ∀ p x, hc h p = some (.inl x) → ∃ y, hc h' p = some (.inl y) ∧ (x.1 = 1 → y = x)
/-- one place is written, nothing is made -/
def st1 (a : Nat) (h h' : rm_H) : Prop := fr (fun p => p = a) h h' ∧ h'.length = h.length ∧ zh h' = zh h
theorem dnl_s (p : Nat) : ¬ dnl (some p) = true := fun z => by cases z
section HC
variable {L : Nat} {xs : Nat → Int32} {zf : Value} {w k : Nat} {h h1 h2 : rm_H} {D : dD}
theorem hc_of {p : Nat} {c : rm_E} (hp : 21 ≤ p) (e : h[p - 21]? = some c) : hc h p = some c := (if_pos hp).trans e
theorem hc_ge {p : Nat} {c : rm_E} (e : hc h p = some c) : 21 ≤ p := by
  unfold hc at e
  split at e
  · assumption
  · cases e
theorem hc_at {p : Nat} {c : rm_E} (e : hc h p = some c) : h[p - 21]? = some c := by
  have := hc_ge e
  unfold hc at e
  rw [if_pos this] at e
  exact e
theorem hc_lt {p : Nat} {c : rm_E} (e : hc h p = some c) : p < 21 + h.length := by
  have h1 := hc_ge e
  have h2 := rs_lt (hc_at e)
  omega
theorem hc_look {p : Nat} {c : rm_E} (e : hc h p = some c) : rm_look 21 (ah_O L xs) h p = some c := (rs_look (hc_ge e)).trans (hc_at e)
theorem hc_gI {a j ci : Nat} {cis : List Nat} {fs : List Value} {x : Int32} (e : hc h a = some (.inr (ci, fs))) (hk : fs[j]? = some (.int x)) (hcn : cis.contains ci = true) : dgI L xs h j cis (some a) = some x := gI_of (hc_ge e) (hc_at e) hcn hk
theorem hc_gR {a j ci : Nat} {cis : List Nat} {fs : List Value} {p : Option Nat} (e : hc h a = some (.inr (ci, fs))) (hk : fs[j]? = some (va_rf p)) (hcn : cis.contains ci = true) : dgR L xs h j cis (some a) = some p := gR_of (hc_ge e) (hc_at e) hcn hk
theorem hc_v {p ci mi : Nat} {cis : List Nat} {fs As : List Value} (e : hc h p = some (.inr (ci, fs))) (hcn : cis.contains ci = true) : dcV L xs D mi cis (some p) As h = D mi (.ref p :: As) h := dcV_of (hc_ge e) (hc_at e) hcn
theorem hc_K {p ci : Nat} {cis : List Nat} {fs : List Value} (e : hc h p = some (.inr (ci, fs))) (hcn : cis.contains ci = true) : ¬ dcK L xs h cis (some p) = false := by
  have : dcK L xs h cis (some p) = true := by
    show rm_cis 21 (ah_O L xs) h p cis = true
    unfold rm_cis
    rw [hc_look e]
    exact hcn
  rw [this]
  decide
theorem hc_set {a : Nat} {c c2 : rm_E} (e : hc h a = some c) : hc (h.set (a - 21) c2) a = some c2 := hc_of (hc_ge e) (rs_set_eq (hc_at e))
theorem hc_ne {a p : Nat} {c2 : rm_E} (ha : 21 ≤ a) (hp : p ≠ a) : hc (h.set (a - 21) c2) p = hc h p := by
  unfold hc
  split
  · exact rs_set_ne (by omega)
  · rfl
theorem hc_app {c : rm_E} {p : Nat} (hp : p < 21 + h.length) : hc (h ++ [c]) p = hc h p := by
  unfold hc
  split
  · exact List.getElem?_append_left (by omega)
  · rfl
theorem hc_new (c : rm_E) : hc (h ++ [c]) (21 + h.length) = some c := by
  refine hc_of (by omega) ?_
  rw [show 21 + h.length - 21 = h.length from by omega]
  exact cat_last h c
theorem hc_up {p : Nat} {c c2 : rm_E} (e : hc h p = some c) : hc (h ++ [c2]) p = some c := (hc_app (hc_lt e)).trans e
theorem fr_refl (P : Nat → Prop) (h : rm_H) : fr P h h := ⟨Nat.le_refl _, fun _ _ _ => rfl, fun _ _ fs e => ⟨fs, e, fun _ => rfl⟩, fun _ x e => ⟨x, e, fun _ => rfl⟩⟩
theorem fr_trans {P Q : Nat → Prop} (a : fr P h h1) (b : fr Q h1 h2) (hQ : ∀ p, p < 21 + h.length → Q p → P p) : fr P h h2 := by
  refine ⟨Nat.le_trans a.1 b.1, fun p hp hn => ?_, fun p ci fs e => ?_, fun p x e => ?_⟩
  · rw [b.2.1 p (by have := a.1; omega) (fun z => hn (hQ p hp z))]
    exact a.2.1 p hp hn
  · obtain ⟨fs1, e1, g1⟩ := a.2.2.1 p ci fs e
    obtain ⟨fs2, e2, g2⟩ := b.2.2.1 p ci fs1 e1
    exact ⟨fs2, e2, fun z => (g2 z).trans (g1 z)⟩
  · obtain ⟨y, e1, g1⟩ := a.2.2.2 p x e
    obtain ⟨y2, e2, g2⟩ := b.2.2.2 p y e1
    exact ⟨y2, e2, fun z => (g2 (by rw [g1 z]; exact z)).trans (g1 z)⟩
theorem fr_mono {P Q : Nat → Prop} (a : fr P h h1) (hQ : ∀ p, p < 21 + h.length → P p → Q p) : fr Q h h1 := ⟨a.1, fun p hp hn => a.2.1 p hp (fun z => hn (hQ p hp z)), a.2.2⟩
theorem fr_old {P : Nat → Prop} {p : Nat} {c : rm_E} (a : fr P h h1) (e : hc h p = some c) (hn : ¬ P p) : hc h1 p = some c := (a.2.1 p (hc_lt e) hn).trans e
theorem fr_by {P : Nat → Prop} {p n : Nat} {f : Nat → Int32} (a : fr P h h1) (e : hc h p = some (byA n f)) : hc h1 p = some (byA n f) := by
  obtain ⟨y, e1, e2⟩ := a.2.2.2 p _ e
  rw [e2 rfl] at e1
  exact e1
theorem fr_app (P : Nat → Prop) (c : rm_E) : fr P h (h ++ [c]) := ⟨by simp, fun p hp _ => hc_app hp, fun p ci fs e => ⟨fs, hc_up e, fun _ => rfl⟩, fun p x e => ⟨x, hc_up e, fun _ => rfl⟩⟩
theorem fr_set (P : Nat → Prop) {a ci : Nat} {fs fs2 : List Value} (e : hc h a = some (.inr (ci, fs))) (hP : P a) (hci : ci ≠ 7 ∧ ci ≠ 16) : fr P h (h.set (a - 21) (.inr (ci, fs2))) := by
  refine ⟨by simp, fun p _ hn => hc_ne (hc_ge e) (fun z => hn (z ▸ hP)), fun p cj gs e2 => ?_, fun p x e2 => ?_⟩
  · by_cases hp : p = a
    · subst hp
      rw [e] at e2
      cases e2
      exact ⟨fs2, hc_set e, fun z => absurd z (by omega)⟩
    · exact ⟨gs, (hc_ne (hc_ge e) hp).trans e2, fun _ => rfl⟩
  · by_cases hp : p = a
    · subst hp
      rw [e] at e2
      cases e2
    · exact ⟨x, (hc_ne (hc_ge e) hp).trans e2, fun _ => rfl⟩
theorem fr_setA (P : Nat → Prop) {a : Nat} {x y : Nat × vp_A} (e : hc h a = some (.inl x)) (hP : P a) (hx : x.1 ≠ 1) : fr P h (h.set (a - 21) (.inl y)) := by
  refine ⟨by simp, fun p _ hn => hc_ne (hc_ge e) (fun z => hn (z ▸ hP)), fun p cj gs e2 => ?_, fun p x2 e2 => ?_⟩
  · by_cases hp : p = a
    · subst hp
      rw [e] at e2
      cases e2
    · exact ⟨gs, (hc_ne (hc_ge e) hp).trans e2, fun _ => rfl⟩
  · by_cases hp : p = a
    · subst hp
      rw [e] at e2
      cases e2
      exact ⟨y, hc_set e, fun z => absurd z hx⟩
    · exact ⟨x2, (hc_ne (hc_ge e) hp).trans e2, fun _ => rfl⟩
theorem st1_ne {a p : Nat} (s : st1 a h h1) (hp : p ≠ a) : hc h1 p = hc h p := by
  by_cases hl : p < 21 + h.length
  · exact s.1.2.1 p hl hp
  · unfold hc
    split
    · have := s.2.1
      rw [List.getElem?_eq_none (by omega), List.getElem?_eq_none (by omega)]
    · rfl
theorem st1_old {a p : Nat} {c : rm_E} (s : st1 a h h1) (e : hc h p = some c) (hp : p ≠ a) : hc h1 p = some c := (st1_ne s hp).trans e
/-- a field is written -/
theorem pF_eq {a j ci : Nat} {cis : List Nat} {fs : List Value} {v u : Value} (e : hc h a = some (.inr (ci, fs))) (hk : fs[j]? = some u) (hcn : cis.contains ci = true) (hf : rm_fit (ah_FT ci j) v = true) : dpF h j cis (some a) v = some (h.set (a - 21) (.inr (ci, fs.set j v))) := by
  unfold dpF
  dsimp only
  rw [if_pos (hc_ge e), hc_at e]
  dsimp only
  rw [if_pos ⟨hcn, hf, (List.getElem?_eq_some_iff.mp hk).1⟩]
theorem pF_ex {a j ci : Nat} {cis : List Nat} {fs : List Value} {v u : Value} (e : hc h a = some (.inr (ci, fs))) (hk : fs[j]? = some u) (hcn : cis.contains ci = true) (hf : rm_fit (ah_FT ci j) v = true) (hci : ci ≠ 7 ∧ ci ≠ 16) : ∃ h', dpF h j cis (some a) v = some h' ∧ hc h' a = some (.inr (ci, fs.set j v)) ∧ st1 a h h' := by
  refine ⟨_, pF_eq e hk hcn hf, hc_set e, fr_set _ e rfl hci, by simp, zh_set ?_ (hc_at e)⟩
  show (fs.set j v).length = fs.length
  simp
/-- a field of the object that was made last is written -/
theorem pF_last {j ci : Nat} {cis : List Nat} {fs : List Value} {v u : Value} (hk : fs[j]? = some u) (hcn : cis.contains ci = true) (hf : rm_fit (ah_FT ci j) v = true) : dpF (h ++ [.inr (ci, fs)]) j cis (some (21 + h.length)) v = some (h ++ [.inr (ci, fs.set j v)]) := by
  rw [pF_eq (hc_new _) hk hcn hf, show 21 + h.length - 21 = h.length from by omega, List.set_append_right _ _ (Nat.le_refl _), Nat.sub_self]
  rfl
theorem fit_R {t : FieldType} (ht : (match t with | .object _ => true | .array _ => true | _ => false) = true) (o : Option Nat) : rm_fit t (va_rf o) = true := by
  cases t <;> cases o <;> first | rfl | cases ht
theorem aR_of {a n i : Nat} {f : Nat → Option Nat} (e : hc h a = some (.inl (4, n, .inr (.inr (.inr (.inr f)))))) (hi : i < n) (hn : n ≤ 1000000) : daR L xs h (some a) (Int32.ofNat i) = some (f i) := by
  unfold daR
  dsimp only
  rw [hc_look e]
  dsimp only
  show (if rm_in (Int32.ofNat i) n = true then _ else _) = _
  rw [if_pos (of_in hi (by omega)), of_clamp (by omega)]
theorem hc_aN {a t n : Nat} {g : (Nat → Int32) ⊕ (Nat → Int64) ⊕ (Nat → UInt32) ⊕ (Nat → UInt64) ⊕ (Nat → Option Nat)} (e : hc h a = some (.inl (t, n, g))) (ht : t < ah_TY.length) : daN L xs h (some a) = some (Int32.ofNat n) := aN_of (hc_ge e) (hc_at e) ht
end HC
