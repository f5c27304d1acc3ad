/-! A NEW ACTOR: the world. -/
def kaA (ka : kAp) (kk : Nat) : kAp := (ka.1, fun c => if c = ka.2.2.2 then kk else ka.2.1 c, ka.2.2.1, ka.2.2.2 + 1)
def laA (la : lAy) (b nf : Nat) : lAy := (la.1, fun c => if c = b then la.2.2.2.1 else la.2.1 c, la.2.2.1, la.2.2.2.1 + nf + 1, la.2.2.2.2)
def msA (ms : mSg) (b : Nat) : mSg := (fun c => if c = b then 0 else ms.1 c, fun c => if c = b then 0 else ms.2.1 c, ms.2.2)
/-- the fields of actor b -/
abbrev aFl (b l : Nat) : Prop := l % 6 = 1 ∧ l / 48 = b
def omA (om : oMg) (N b nf : Nat) (em : Nat → Int64) (ft : Nat → Nat) : oMg := (fun l => if aFl b l then em (l % 48 / 6) else om.1 l, fun l => if aFl b l then (if l % 48 / 6 < nf then ft (l % 48 / 6) else 0) else om.2.1 l, (fun l => if aFl b l then N else om.2.2.1.1 l, om.2.2.1.2.1, om.2.2.1.2.2.1, om.2.2.1.2.2.2.1, fun y => if N ≤ y then b else om.2.2.1.2.2.2.2 y), fun d o => d ≠ b ∧ om.2.2.2.1 d o, fun c => if c = b then N else om.2.2.2.2 c)
section JNA
variable {sB : rS} {A B : Nat → Int32} {mi : Nat → Nat × Nat × Nat × Nat × Nat} {kc : kCi} {om om' : oMg} {ka ka' : kAp} {la : lAy} {ms : mSg} {N N' cn : Nat} {sg sg' sg2 : cS} {s s' s2 S1 : rS} {a b d e lo q0 J l t r i n p q k k2 f0 w P L sz lv : Nat} {xs : Nat → Int32} {zf : Value} {Z : Nat → Prop} {hB h h' : rm_H} {es : List Nat} {x : Nat → Nat → fDs} {D : Nat → Nat} {S S0 X : List stE} {v : Int64} {y : Int32}
variable {E Pq : Nat → Prop} {kk K tk nf ob f : Nat} {em g : Nat → Int64} {ft : Nat → Nat} {us : Nat → Int32} {c : Nat}
theorem aF_F : aFl b (pF c f) ↔ (8 * c + f) / 8 = b := by
  unfold pF
  constructor
  · intro z
    have := z.2
    omega
  · intro z
    exact ⟨by omega, by omega⟩
theorem aF_b (h : f < 8) : aFl b (pF b f) := aF_F.mpr (by omega)
theorem aF_n (h : l % 6 ≠ 1) : ¬ aFl b l := fun z => h z.1
theorem oA_W (h : ¬ aFl b l) : (omA om N b nf em ft).1 l = om.1 l := if_neg h
theorem oA_T (h : ¬ aFl b l) : (omA om N b nf em ft).2.1 l = om.2.1 l := if_neg h
theorem oA_H (h : ¬ aFl b l) : (omA om N b nf em ft).2.2.1.1 l = om.2.2.1.1 l := if_neg h
theorem GI_A (gi : GI ob N om.1 om.2.1 om.2.2.1) (he : ∀ f, f < nf → oV (em f) = 0) : GI ob (N + 1) (omA om N b nf em ft).1 (omA om N b nf em ft).2.1 (omA om N b nf em ft).2.2.1 := by
  obtain ⟨⟨i1, i2, ⟨ht, i3⟩, i4⟩, ⟨b1, b2, b3⟩, h3, h4, h5⟩ := gi
  have tz : ∀ l, aFl b l → tgF (omA om N b nf em ft).2.1 (omA om N b nf em ft).1 l = 0 := by
    intro l hl
    show (if (if aFl b l then (if l % 48 / 6 < nf then ft (l % 48 / 6) else 0) else om.2.1 l) = 0 then 0 else oV (if aFl b l then em (l % 48 / 6) else om.1 l)) = 0
    rw [if_pos hl, if_pos hl]
    by_cases c : l % 48 / 6 < nf
    · rw [he _ c, ite_self]
    · rw [if_neg c, if_pos rfl]
  have tn : ∀ l, ¬ aFl b l → tgF (omA om N b nf em ft).2.1 (omA om N b nf em ft).1 l = tgF om.2.1 om.1 l := by
    intro l hl
    unfold tgF
    rw [oA_T hl, oA_W hl]
  have nz : ∀ l, tgF (omA om N b nf em ft).2.1 (omA om N b nf em ft).1 l ≠ 0 → ¬ aFl b l := fun l h hl => h (tz l hl)
  have cpn : ∀ l, ¬ aFl b l → cpF (omA om N b nf em ft).2.1 l = cpF om.2.1 l := fun l hl => by unfold cpF; rw [oA_T hl]
  refine ⟨⟨fun l => ?_, fun l l2 z1 z2 z3 z4 z5 z6 z7 => ?_, ⟨ht, fun r hr => ?_⟩, fun l hl => ?_⟩, ⟨fun l hl => ?_, fun o => Nat.lt_succ_of_lt (b2 o), fun r hr => ⟨Nat.lt_succ_of_lt (b3 r hr).1, Nat.lt_succ_of_lt (b3 r hr).2⟩⟩, fun l => ?_, fun l hl => ?_, by omega⟩
  · by_cases c : aFl b l
    · rw [tz l c]; exact Or.inl rfl
    · rw [tn l c, cpn l c, show (omA om N b nf em ft).2.2.1.1 l = om.2.2.1.1 l from oA_H c]
      exact i1 l
  · have n1 := nz l z1
    have n2 := nz l2 z2
    rw [tn l n1] at z1 z7
    rw [tn l2 n2] at z2 z7
    rw [show (omA om N b nf em ft).2.2.1.1 l = om.2.2.1.1 l from oA_H n1] at z3
    rw [show (omA om N b nf em ft).2.2.1.1 l2 = om.2.2.1.1 l2 from oA_H n2] at z4
    rw [cpn l n1] at z5
    rw [cpn l2 n2] at z6
    exact i2 l l2 z1 z2 z3 z4 z5 z6 z7
  · obtain ⟨z1, z2, z3, z4⟩ := i3 r hr
    obtain ⟨c1, c2⟩ := b3 r hr
    refine ⟨z1, z2, z3, ?_⟩
    show (if N ≤ om.2.2.1.2.2.1 r then b else om.2.2.1.2.2.2.2 (om.2.2.1.2.2.1 r)) = (if N ≤ r then b else om.2.2.1.2.2.2.2 r)
    rw [if_neg (by omega), if_neg (by omega)]
    exact z4
  · have n1 : ¬ aFl b l := fun z => hl (ob_n (by have := z.1; omega))
    rw [show (omA om N b nf em ft).2.2.1.1 l = om.2.2.1.1 l from oA_H n1]
    exact i4 l hl
  · have n1 := nz l hl
    rw [tn l n1] at hl
    rw [show (omA om N b nf em ft).2.2.1.1 l = om.2.2.1.1 l from oA_H n1]
    exact Nat.lt_succ_of_lt (b1 l hl)
  · by_cases c : aFl b l
    · rw [tz l c]; exact Nat.zero_le _
    · rw [tn l c]; exact h3 l
  · have n1 : ¬ aFl b l := fun z => by
      rw [ob_n (by have := z.1; omega)] at hl
      omega
    rw [oA_T n1]
    exact h4 l hl
theorem stA (gi : GI ob N om.1 om.2.1 om.2.2.1) (hE : ∀ y, E y → y < N) : rSt a a E (aFl b) om.2.2.1 (omA om N b nf em ft).2.2.1 := by
  refine ⟨fun y hy => ⟨rfl, if_neg (by have := hE y hy; omega), fun _ => rfl, fun _ => Iff.rfl⟩, fun l hl _ => if_neg hl, fun _ _ => rfl, fun o ho => ?_⟩
  right; left
  have := gi.2.1.2.1 o
  show (if N ≤ om.2.2.1.2.1 o then b else om.2.2.1.2.2.2.2 (om.2.2.1.2.1 o)) = a
  rw [if_neg (by omega)]
  exact ho
theorem kaX_A : kaX ka (kaA ka kk) := ⟨fun _ _ => rfl, fun c hc => if_neg (by omega), Nat.le_refl _, Nat.le_succ _⟩
theorem wAl_a (w : wAl sB kc om ka la ms N cn sg s D) (k8 : kk < 8) (h66 : sB.2.1 66 kk = 1) (nf8 : (kc kk).1 ≤ 8) (b12 : ka.2.2.2 < 12) (room : ∀ cl, cl ≤ 400 → sg.1 5 = Int32.ofNat cl → la.2.2.2.1 + (kc kk).1 + 1 ≤ cl) (hem : ∀ f, f < (kc kk).1 → (∀ k' : kAp, vTy k' 0 ((kc kk).2.1 f) (em f)) ∧ oV (em f) = 0 ∧ cvl (em f) = 0) (hdt : ∀ f, f < (kc kk).1 → dTy ((kc kk).2.1 f) = true)
    -- the class
    (c1 : ∀ j, j ≠ 8 → j ≠ 10 → sg'.1 j = sg.1 j) (c8 : sg'.1 8 = Int32.ofNat (ka.2.2.2 + 1)) (c10 : sg'.1 10 = Int32.ofNat (la.2.2.2.1 + (kc kk).1 + 1)) (cw : ∀ j, j ≠ 0 → sg'.2.1 j = sg.2.1 j) (cc0 : ∀ j, j < la.2.2.2.1 ∨ la.2.2.2.1 + (kc kk).1 + 1 ≤ j → sg'.2.1 0 j = sg.2.1 0 j) (ccz : ∀ j, la.2.2.2.1 < j → j < la.2.2.2.1 + (kc kk).1 + 1 → sg'.2.1 0 j = 0) (ca : ∀ c j, c ≠ ka.2.2.2 → sg'.2.2.1 c j = sg.2.2.1 c j ∧ sg'.2.2.2.1 c j = sg.2.2.2.1 c j ∧ sg'.2.2.2.2 c j = sg.2.2.2.2 c j) (b0 : sg'.2.2.1 ka.2.2.2 0 = Int32.ofNat ka.2.2.2) (b2 : sg'.2.2.1 ka.2.2.2 2 = Int32.ofNat la.2.2.2.1) (bz : ∀ j, j = 4 ∨ j = 5 ∨ j = 6 ∨ j = 11 ∨ j = 3 ∨ j = 13 → sg'.2.2.1 ka.2.2.2 j = 0) (b1 : sg'.2.2.2.2 ka.2.2.2 1 = (kc kk).2.2)
    -- the reference
    (r1 : ∀ p, p ≠ 75 → p ≠ 77 → s'.1 p = s.1 p) (r75 : s'.1 75 = Int32.ofNat (ka.2.2.2 + 1)) (r77 : s'.1 77 = Int32.ofNat (la.2.2.2.1 + (kc kk).1 + 1)) (rI : ∀ p i, ¬ (89 ≤ p ∧ p ≤ 94 ∧ i = ka.2.2.2) → ¬ (p = 104 ∧ 6 * ka.2.2.2 ≤ i ∧ i < 6 * ka.2.2.2 + 6) → s'.2.1 p i = s.2.1 p i) (r89 : s'.2.1 89 ka.2.2.2 = Int32.ofNat kk) (rz : ∀ p, 90 ≤ p → p ≤ 94 → s'.2.1 p ka.2.2.2 = 0) (r104 : ∀ j, j < 6 → s'.2.1 104 (6 * ka.2.2.2 + j) = 0) (rL : ∀ p i, p ≠ 95 → s'.2.2 p i = s.2.2 p i) (r95 : ∀ f, f < (kc kk).1 → s'.2.2 95 (8 * ka.2.2.2 + f) = em f) (r95' : ∀ j, j < 8 * ka.2.2.2 ∨ 8 * ka.2.2.2 + (kc kk).1 ≤ j → s'.2.2 95 j = s.2.2 95 j) :
    wAl sB kc (omA om N ka.2.2.2 (kc kk).1 em (kc kk).2.1) (kaA ka kk) (laA la ka.2.2.2 (kc kk).1) (msA ms ka.2.2.2) (N + 1) cn sg' s' (fun c => if c = ka.2.2.2 then 0 else D c) := by
  have bd := w_bd w
  obtain ⟨⟨x1, x2⟩, gi, wn, wo, wd, wa⟩ := w
  have N1 := gi.2.2.2.2
  have rr : ∀ p i, p ≤ 88 ∨ 95 ≤ p → p ≠ 104 → s'.2.1 p i = s.2.1 p i := fun p i h1 h2 => rI p i (by omega) (by omega)
  have rc : ∀ p c, c ≠ ka.2.2.2 → p ≠ 104 → s'.2.1 p c = s.2.1 p c := fun p c h1 h2 => rI p c (by omega) (by omega)
  have nO : ∀ o f, ¬ aFl ka.2.2.2 (pO o f) := fun o f => aF_n (by unfold pO; omega)
  have nM : ∀ o f, ¬ aFl ka.2.2.2 (pM o f) := fun o f => aF_n (by unfold pM; omega)
  have nF : ∀ c f, c ≠ ka.2.2.2 → f < 8 → ¬ aFl ka.2.2.2 (pF c f) := fun c f hc hf z => by
    have := aF_F.mp z
    omega
  have ow : ∀ y, y < N → (omA om N ka.2.2.2 (kc kk).1 em (kc kk).2.1).2.2.1.2.2.2.2 y = om.2.2.1.2.2.2.2 y := fun y hy => if_neg (by omega)
  have ow' : ∀ d' o, (om.2.2.1.2.1 o = 0 ∨ om.2.2.1.2.2.2.2 (om.2.2.1.2.1 o) = d') → ((omA om N ka.2.2.2 (kc kk).1 em (kc kk).2.1).2.2.1.2.1 o = 0 ∨ (omA om N ka.2.2.2 (kc kk).1 em (kc kk).2.1).2.2.1.2.2.2.2 ((omA om N ka.2.2.2 (kc kk).1 em (kc kk).2.1).2.2.1.2.1 o) = d') := fun d' o h => by
    rcases h with h | h
    · exact Or.inl h
    · right
      show (omA om N ka.2.2.2 (kc kk).1 em (kc kk).2.1).2.2.1.2.2.2.2 (om.2.2.1.2.1 o) = d'
      rw [ow _ (gi.2.1.2.1 o)]
      exact h
  have cp : ∀ d' y, cPy s' d' y = cPy s d' y := by
    intro d' y
    unfold cPy
    rw [rL 96 _ (by decide), rL 107 _ (by decide)]
  have kn : ∀ d', d' ≠ ka.2.2.2 → wKn kc om ka la s d' → wKn kc (omA om N ka.2.2.2 (kc kk).1 em (kc kk).2.1) (kaA ka kk) (laA la ka.2.2.2 (kc kk).1) s' d' := by
    intro d' hd h o ho
    obtain ⟨z1, z2, z3⟩ := h o ho.2
    refine ⟨z1, ow' d' o z2, fun f hf => ?_⟩
    obtain ⟨y1, y2⟩ := z3 f hf
    show cPy s' d' (la.2.2.1 o + f) = (omA om N ka.2.2.2 (kc kk).1 em (kc kk).2.1).1 (pO o f) ∧ (oV ((omA om N ka.2.2.2 (kc kk).1 em (kc kk).2.1).1 (pO o f)) ≠ 0 → (omA om N ka.2.2.2 (kc kk).1 em (kc kk).2.1).2.2.2.1 d' (oV ((omA om N ka.2.2.2 (kc kk).1 em (kc kk).2.1).1 (pO o f))))
    rw [oA_W (nO o f), cp]
    exact ⟨y1, fun z => ⟨hd, y2 z⟩⟩
  have kx : kaX ka (kaA ka kk) := kaX_A
  obtain ⟨clm, mb, tn, ⟨n1, n1b, n1c⟩, ⟨n2, n2b⟩, ⟨n3, n3b, n3c⟩, ⟨n4, n4b⟩, ⟨n5, n5b, n5c⟩, ⟨n6, n6b⟩, n7, ⟨n8, n8b, n8c, n8d⟩, ⟨n9, n9b, n9c⟩, n10, n11, n12⟩ := wn
  have rm := room clm n1c n1
  have e1 : ∀ c, c ≠ ka.2.2.2 → (laA la ka.2.2.2 (kc kk).1).2.1 c = la.2.1 c := fun c hc => if_neg hc
  have e1b : (laA la ka.2.2.2 (kc kk).1).2.1 ka.2.2.2 = la.2.2.2.1 := if_pos rfl
  have e2 : ∀ c, c ≠ ka.2.2.2 → (kaA ka kk).2.1 c = ka.2.1 c := fun c hc => if_neg hc
  have e2b : (kaA ka kk).2.1 ka.2.2.2 = kk := if_pos rfl
  have oldc : ∀ c, c < ka.2.2.2 + 1 → c ≠ ka.2.2.2 → c < ka.2.2.2 := fun c h1 h2 => by omega
  refine ⟨⟨fun p hp => ?_, fun p hp => ?_⟩, GI_A gi (fun f hf => (hem f hf).2.1), ⟨clm, mb, tn, ⟨?_, ?_, n1c⟩, ⟨?_, ?_, n2b.2⟩, ⟨c8, r75, by show ka.2.2.2 + 1 ≤ 12; omega⟩, ⟨?_, ?_⟩, ⟨c10, r77, rm⟩, ⟨?_, ?_⟩, ?_, ⟨?_, ?_, n8c, fun i h1 h2 => ?_⟩, ⟨?_, ?_, ?_⟩, ?_, fun c hc => ?_, fun b hb1 hb2 => ?_⟩, fun o h1 h2 => ?_, ⟨wd.1, fun c c' h1 h2 => ?_, fun o c h1 h2 h3 => ?_⟩, fun c hc => ?_⟩
  · funext i; rw [rr p i (by omega) (by omega), x1 p hp]
  · funext i; rw [rL p i (by omega), x2 p hp]
  · rw [c1 5 (by decide) (by decide)]; exact n1
  · rw [r1 78 (by decide) (by decide)]; exact n1b
  · rw [c1 6 (by decide) (by decide)]; exact n2
  · rw [r1 79 (by decide) (by decide)]; exact n2b.1
  · rw [c1 9 (by decide) (by decide)]; exact n4
  · rw [r1 76 (by decide) (by decide)]; exact n4b
  · rw [r1 87 (by decide) (by decide)]; exact n6
  · show la.2.2.2.2 + ka.2.2.1 + (ka.2.2.2 + 1) ≤ la.2.2.2.1 + (kc kk).1 + 1
    omega
  · rw [c1 11 (by decide) (by decide), r1 80 (by decide) (by decide)]; exact n7
  · rw [c1 12 (by decide) (by decide)]; exact n8
  · rw [r1 81 (by decide) (by decide)]; exact n8b
  · rw [cw 3 (by decide), cw 4 (by decide), rr 108 i (by decide) (by decide), rr 109 i (by decide) (by decide)]; exact n8d i h1 h2
  · rw [c1 13 (by decide) (by decide), r1 82 (by decide) (by decide)]; exact n9
  · rw [c1 14 (by decide) (by decide), r1 83 (by decide) (by decide)]; exact n9b
  · rw [c1 15 (by decide) (by decide), r1 84 (by decide) (by decide)]; exact n9c
  · rw [r1 74 (by decide) (by decide)]; exact n10
  · show (if c = ka.2.2.2 then 0 else ms.1 c) ≤ mb
    by_cases e : c = ka.2.2.2
    · rw [if_pos e]; exact Nat.zero_le _
    · rw [if_neg e]; exact n11 c (oldc c hc e)
  · have hb1 : ka.2.2.2 + 1 ≤ b := hb1
    have e : b ≠ ka.2.2.2 := by omega
    rw [(ca b 0 e).1, (ca b 13 e).2.2]
    exact n12 b (by omega) hb2
  · obtain ⟨o1, o2, o3, o4, o5, o6, o7, o8⟩ := wo o h1 h2
    refine ⟨o1, by rw [cw 1 (by decide)]; exact o2, by rw [cc0 _ (by show la.1 o < _ ∨ _; omega)]; exact o3, by rw [rr 87 o (by decide) (by decide)]; exact o4, by rw [rr 88 o (by decide) (by decide)]; exact o5, by show la.1 o + _ + 1 ≤ la.2.2.2.1 + (kc kk).1 + 1; have : la.1 o + (kc (ka.1 o)).1 + 1 ≤ la.2.2.2.1 := o6; exact Nat.le_trans this (by omega), o7, fun f hf => ?_⟩
    obtain ⟨f1, f2, f3⟩ := o8 f hf
    have hf : f < (kc (ka.1 o)).1 := hf
    show (omA om N ka.2.2.2 (kc kk).1 em (kc kk).2.1).2.1 (pO o f) = _ ∧ vTy (kaA ka kk) 0 _ ((omA om N ka.2.2.2 (kc kk).1 em (kc kk).2.1).1 (pO o f)) ∧ sg'.2.1 0 (la.1 o + 1 + f) = cvl ((omA om N ka.2.2.2 (kc kk).1 em (kc kk).2.1).1 (pO o f))
    rw [oA_W (nO o f), oA_T (nO o f), cc0 _ (by omega)]
    exact ⟨f1, vTy_k f2 kx, f3⟩
  · have h2 : c' < ka.2.2.2 + 1 := h2
    have ec : c ≠ ka.2.2.2 := by omega
    rw [e1 c ec, e2 c ec]
    by_cases e : c' = ka.2.2.2
    · rw [e, e1b]
      exact (wa c (by omega)).2.1.2.2.2.2.1
    · rw [e1 c' e]
      exact wd.2.1 c c' h1 (by omega)
  · have h3 : c < ka.2.2.2 + 1 := h3
    by_cases e : c = ka.2.2.2
    · left
      rw [e, e1b]
      obtain ⟨_, _, _, _, _, o6, _⟩ := wo o h1 h2
      exact o6
    · rw [e1 c e, e2 c e]
      exact wd.2.2 o c h1 h2 (by omega)
  · have hc : c < ka.2.2.2 + 1 := hc
    by_cases e : c = ka.2.2.2
    · -- the new one
      subst e
      refine ⟨fun o ho => absurd rfl ho.1, ⟨⟨b0, by rw [e2b]; exact b1, by rw [e2b]; exact k8, by rw [e2b]; exact h66, by rw [e2b]; exact nf8⟩, ⟨by rw [e1b]; exact b2, by rw [e2b]; exact r89⟩, ⟨?_, ?_⟩, ⟨?_, ?_⟩, ?_, ⟨?_, ?_, ?_⟩, fun f hf => ?_⟩, ⟨⟨?_, ?_, ?_⟩, ⟨?_, ?_⟩, fun k hk => ?_, fun k k' hk => ?_, fun j hj _ => r104 j hj⟩⟩
      · show _ = Int32.ofNat (if ka.2.2.2 = ka.2.2.2 then 0 else D ka.2.2.2)
        rw [if_pos rfl]; exact bz 3 (by decide)
      · show _ = Int32.ofNat (if ka.2.2.2 = ka.2.2.2 then 0 else D ka.2.2.2)
        rw [if_pos rfl]; exact rz 92 (by decide) (by decide)
      · rw [bz 5 (by decide), rz 90 (by decide) (by decide)]
      · rw [bz 6 (by decide), rz 91 (by decide) (by decide)]
      · rw [e1b, e2b]; exact Nat.le_refl _
      · show (if ka.2.2.2 = ka.2.2.2 then N else _) ≠ 0
        rw [if_pos rfl]; omega
      · show (if ka.2.2.2 = ka.2.2.2 then N else _) < N + 1
        rw [if_pos rfl]; omega
      · show (if N ≤ (if ka.2.2.2 = ka.2.2.2 then N else _) then ka.2.2.2 else _) = ka.2.2.2
        rw [if_pos rfl, if_pos (Nat.le_refl N)]
      · rw [e2b] at hf ⊢
        have f8 : f < 8 := by omega
        have af := aF_b (b := ka.2.2.2) f8
        have ei : pF ka.2.2.2 f % 48 / 6 = f := by unfold pF; omega
        obtain ⟨g1, g2, g3⟩ := hem f hf
        have eW : (omA om N ka.2.2.2 (kc kk).1 em (kc kk).2.1).1 (pF ka.2.2.2 f) = em f := (if_pos af).trans (by rw [ei])
        refine ⟨?_, ?_, ?_, ?_, ?_⟩
        · show (if aFl ka.2.2.2 (pF ka.2.2.2 f) then (if pF ka.2.2.2 f % 48 / 6 < (kc kk).1 then (kc kk).2.1 (pF ka.2.2.2 f % 48 / 6) else 0) else _) = _
          rw [if_pos af, ei, if_pos hf]
        · show (if aFl ka.2.2.2 (pF ka.2.2.2 f) then N else _) = (if ka.2.2.2 = ka.2.2.2 then N else _)
          rw [if_pos af, if_pos rfl]
        · rw [eW]
          exact ⟨vTy_d (hdt f hf) (g1 _), fun z => absurd g2 z⟩
        · rw [eW, e1b, ccz _ (by omega) (by omega)]
          exact g3.symm
        · rw [eW]; exact r95 f hf
      · show (if ka.2.2.2 = ka.2.2.2 then 0 else _) ≤ 6
        rw [if_pos rfl]; decide
      · show _ = Int32.ofNat (if ka.2.2.2 = ka.2.2.2 then 0 else _)
        rw [if_pos rfl]; exact bz 4 (by decide)
      · show _ = Int32.ofNat (if ka.2.2.2 = ka.2.2.2 then 0 else _)
        rw [if_pos rfl]; exact rz 94 (by decide) (by decide)
      · show (if ka.2.2.2 = ka.2.2.2 then 0 else _) < 6
        rw [if_pos rfl]; decide
      · show _ = Int32.ofNat (if ka.2.2.2 = ka.2.2.2 then 0 else _)
        rw [if_pos rfl]; exact bz 11 (by decide)
      · have hk : k < (if ka.2.2.2 = ka.2.2.2 then 0 else ms.1 ka.2.2.2) := hk
        rw [if_pos rfl] at hk
        exact absurd hk (Nat.not_lt_zero _)
      · have hk : k < (if ka.2.2.2 = ka.2.2.2 then 0 else ms.1 ka.2.2.2) := hk
        rw [if_pos rfl] at hk
        exact absurd hk (Nat.not_lt_zero _)
    · have hc' : c < ka.2.2.2 := by omega
      obtain ⟨k1, k2, k3⟩ := wa c hc'
      refine ⟨kn c e k1, ?_, ?_⟩
      · obtain ⟨⟨a1, a2, a3, a3b, a3c⟩, ⟨a4, a5⟩, ⟨a6, a7⟩, ⟨a8, a9⟩, a10, ⟨a11, a12, a13⟩, a14⟩ := k2
        have eR : (omA om N ka.2.2.2 (kc kk).1 em (kc kk).2.1).2.2.2.2 c = om.2.2.2.2 c := if_neg e
        have eD : (fun c => if c = ka.2.2.2 then 0 else D c) c = D c := if_neg e
        unfold wAc
        rw [e1 c e, e2 c e, (ca c 0 e).1, (ca c 1 e).2.2, (ca c 2 e).1, (ca c 3 e).1, (ca c 5 e).1, (ca c 6 e).1, rc 89 c e (by decide), rc 92 c e (by decide), rc 90 c e (by decide), rc 91 c e (by decide), eR, eD]
        refine ⟨⟨a1, a2, a3, a3b, a3c⟩, ⟨a4, a5⟩, ⟨a6, a7⟩, ⟨a8, a9⟩, ?_, ⟨a11, by omega, by rw [ow _ a12]; exact a13⟩, fun f hf => ?_⟩
        · show la.2.1 c + (kc (ka.2.1 c)).1 + 1 ≤ la.2.2.2.1 + (kc kk).1 + 1
          omega
        · obtain ⟨f1, f2, f3, f4, f5⟩ := a14 f hf
          have nf := nF c f e (by omega)
          rw [oA_W nf, oA_T nf, oA_H nf, cc0 _ (by omega), r95' _ (by omega)]
          exact ⟨f1, f2, ⟨vTy_k f3.1 kx, fun z => ⟨e, f3.2 z⟩⟩, f4, f5⟩
      · obtain ⟨⟨m1, m2, m3⟩, ⟨m4, m5⟩, m6, m7, m8⟩ := k3
        have em1 : (msA ms ka.2.2.2).1 c = ms.1 c := if_neg e
        have em2 : (msA ms ka.2.2.2).2.1 c = ms.2.1 c := if_neg e
        have em3 : (msA ms ka.2.2.2).2.2 = ms.2.2 := rfl
        unfold wMs
        rw [em1, em2, em3]
        refine ⟨⟨m1, by rw [(ca c 4 e).1]; exact m2, by rw [rc 94 c e (by decide)]; exact m3⟩, ⟨m4, by rw [(ca c 11 e).1]; exact m5⟩, fun k hk => ?_, m7, fun j hj hz => ?_⟩
        · obtain ⟨p1, p2, p3, ⟨p4, p5, p6, p7, p8⟩, ⟨p9, p10, p11⟩, ⟨ts, t1, t2, t3, t4⟩, p12, p13⟩ := m6 k hk
          unfold wM1
          rw [em2, em3, e2 c e, (ca c 10 e).2.1]
          refine ⟨p1, by rw [rr 102 _ (by decide) (by decide)]; exact p2, ?_, ⟨p4, by rw [rr 103 _ (by decide) (by decide)]; exact p5, p6, p7, p8⟩, ⟨p9, by omega, by rw [ow _ p10]; exact p11⟩, ⟨ts, t1, t2, t3, fun i t ht => ?_⟩, kn _ (by omega) p12, fun o h1 h2 => ?_⟩
          · rw [rI 104 _ (by omega) (by omega)]; exact p3
          · obtain ⟨u1, u2, u3, u4, u5⟩ := t4 i t ht
            rw [oA_W (nM _ _), oA_T (nM _ _), oA_H (nM _ _), rL 106 _ (by decide)]
            exact ⟨u1, u2, ⟨vTy_k u3.1 kx, fun z => ⟨by omega, u3.2 z⟩⟩, u4, u5⟩
          · rw [rr 105 _ (by decide) (by decide)]
            exact (p13 o h1 h2).trans ⟨fun z => ⟨by omega, z⟩, fun z => z.2⟩
        · rw [rI 104 _ (by omega) (by omega)]; exact m8 j hj hz
end JNA
