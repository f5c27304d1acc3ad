/-! A MESSAGE IS SENT: the world. -/
/-- the mailboxes with one message more -/
def msS (ms : mSg) (b j m N : Nat) : mSg := (fun c => if c = b then ms.1 b + 1 else ms.1 c, ms.2.1, fun c k => if c = b ∧ k = ms.1 b then j else ms.2.2.1 c k, fun z => if z = 6 * b + j then m else ms.2.2.2.1 z, fun z => if z = 6 * b + j then N else ms.2.2.2.2 z)
/-- a knows no more what it gave away; message s0 knows L -/
def omS (om1 : oMg) (a s0 : Nat) (L : List Nat) : oMg := (om1.1, om1.2.1, om1.2.2.1, fun d o => if d = 12 + s0 then o ∈ L else if d = a then om1.2.2.2.1 a o ∧ (om1.2.2.1.2.1 o = 0 ∨ om1.2.2.1.2.2.2.2 (om1.2.2.1.2.1 o) = a) else om1.2.2.2.1 d o, om1.2.2.2.2)
/-- what the class changes -/
def kCs (a b : Nat) (sg sg' : cS) : Prop := (∀ j, j ≠ 13 → sg'.1 j = sg.1 j) ∧ sg'.2.1 = sg.2.1 ∧ (∀ c j, ¬ (c = a ∧ j = 13) → ¬ (c = b ∧ j = 4) → sg'.2.2.1 c j = sg.2.2.1 c j) ∧ (∀ c j, ¬ (c = a ∧ j = 12) → ¬ (c = b ∧ j = 10) → sg'.2.2.2.1 c j = sg.2.2.2.1 c j) ∧ ∀ c j, ¬ (c = a ∧ (j = 12 ∨ j = 13)) → sg'.2.2.2.2 c j = sg.2.2.2.2 c j
/-- what the reference changes -/
def kRs (a b s0 wt : Nat) (s s' : rS) : Prop := (∀ p, p ≠ 82 → s'.1 p = s.1 p) ∧ (∀ p i, ¬ (p = 93 ∧ i = a) → ¬ ((p = 104 ∨ p = 103) ∧ i = s0) → ¬ (p = 102 ∧ i = 6 * b + wt) → ¬ (p = 94 ∧ i = b) → ¬ (p = 105 ∧ 401 * s0 ≤ i ∧ i < 401 * s0 + 401) → p ≠ 110 → s'.2.1 p i = s.2.1 p i) ∧ ∀ p i, ¬ (p = 107 ∧ 400 * s0 ≤ i ∧ i < 400 * s0 + 400) → ¬ (p = 106 ∧ 6 * s0 ≤ i ∧ i < 6 * s0 + 6) → s'.2.2 p i = s.2.2 p i
section JSK
variable {sB : rS} {A B : Nat → Int32} {mi : Nat → Nat × Nat × Nat × Nat × Nat} {kc : kCi} {om om' : oMg} {ka ka' : kAp} {la : lAy} {ms : mSg} {N N' cn : Nat} {sg sg' sg2 : cS} {s s' s2 S1 : rS} {a b d e lo q0 J l t r i n p q k k2 f0 w P L sz lv : Nat} {xs : Nat → Int32} {zf : Value} {Z : Nat → Prop} {hB h h' : rm_H} {es : List Nat} {x : Nat → Nat → fDs} {D : Nat → Nat} {S S0 X : List stE} {v : Int64} {y : Int32}
variable {E Pq : Nat → Prop} {om1 : oMg} {m j : Nat} {Lb ps : List Nat}
theorem own_p {l R Dd ob : Nat} (gi : GI ob N om.1 om.2.1 om.2.2.1) (t0 : om.2.1 l ≠ 0) (hr : om.2.2.1.1 l = R) (R0 : R ≠ 0) (ow : om.2.2.1.2.2.2.2 R = Dd) (o0 : oV (om.1 l) ≠ 0) : om.2.2.1.2.1 (oV (om.1 l)) = 0 ∨ om.2.2.1.2.2.2.2 (om.2.2.1.2.1 (oV (om.1 l))) = Dd := by
  have et : tgF om.2.1 om.1 l = oV (om.1 l) := tgF_eq t0
  have := rg_own gi.1 l (by rw [et]; exact o0) (by rw [hr]; exact R0)
  rw [et, hr, ow] at this
  exact this
theorem own_fl {o f Dd ob : Nat} (gi : GI ob N om.1 om.2.1 om.2.2.1) (o1 : o ≠ 0) (f8 : f < 8) (t0 : om.2.1 (pO o f) ≠ 0) (ow : om.2.2.1.2.1 o = 0 ∨ om.2.2.1.2.2.2.2 (om.2.2.1.2.1 o) = Dd) (o0 : oV (om.1 (pO o f)) ≠ 0) : om.2.2.1.2.1 (oV (om.1 (pO o f))) = 0 ∨ om.2.2.1.2.2.2.2 (om.2.2.1.2.1 (oV (om.1 (pO o f)))) = Dd := by
  have hob : obP (pO o f) = o := ob_O f8
  have hrk : om.2.2.1.1 (pO o f) = om.2.2.1.2.1 o := by
    have := gi.1.2.2.2 (pO o f) (by rw [hob]; exact o1)
    rw [hob] at this
    exact this
  by_cases r0 : om.2.2.1.2.1 o = 0
  · left
    have ok := gi.1.1 (pO o f)
    rw [tgF_eq t0, hrk, r0] at ok
    rcases ok with z | z | z
    · exact absurd z o0
    · exact z.2
    · exact absurd rfl z.1
  · refine own_p gi t0 hrk r0 ?_ o0
    rcases ow with z | z
    · exact absurd z r0
    · exact z
theorem wAl_s {L : List Nat} (w : wAl sB kc om ka la ms N cn sg s D) (ac : a < ka.2.2.2) (bc : b < ka.2.2.2) (j6 : j < 6) (jf : ∀ k, k < ms.1 b → ms.2.2.1 b k ≠ j) (room : ∀ mb, mb ≤ 6 → sg.1 6 = Int32.ofNat mb → ms.1 b < mb)
    (gi' : GI ka.2.2.1 (N + 1) om1.1 om1.2.1 om1.2.2.1) (eK : om1.2.2.2 = om.2.2.2) (st : rSt a (12 + (6 * b + j)) E Pq om.2.2.1 om1.2.2.1) (hE : ∀ y, y = 0 ∨ (y < N ∧ om.2.2.1.2.2.2.2 y ≠ a) → E y) (hEm : E (om.2.2.2.2 a)) (hP : ∀ l, Pq l → l % 6 ≠ 0 ∧ l % 6 ≠ 1 ∧ (l % 6 = 5 → l / 36 = 6 * b + j)) (cW : ∀ l, l % 6 = 0 ∨ l % 6 = 1 ∨ (l % 6 = 5 ∧ l / 36 ≠ 6 * b + j) → om1.1 l = om.1 l ∧ om1.2.1 l = om.2.1 l) (oN : om1.2.2.1.2.2.2.2 N = 12 + (6 * b + j))
    (args : ∀ i q', ps[i]? = some q' → om1.2.1 (pM (6 * b + j) i) = q' ∧ om1.2.2.1.1 (pM (6 * b + j) i) = N ∧ vTy ka (12 + (6 * b + j)) q' (om1.1 (pM (6 * b + j) i)) ∧ (oV (om1.1 (pM (6 * b + j) i)) ≠ 0 → oV (om1.1 (pM (6 * b + j) i)) ∈ L) ∧ sg'.2.2.2.1 b 10 ((ms.2.1 b + ms.1 b) % 6 * 7 + 1 + i) = cvl (om1.1 (pM (6 * b + j) i)) ∧ s'.2.2 106 (6 * (6 * b + j) + i) = om1.1 (pM (6 * b + j) i))
    (pm : pmT sB m ps) (p6 : ps.length ≤ 6) (sd : ∀ t ∈ ps, sdT t = true) (m72 : m < 72) (m71 : sB.2.1 71 m = Int32.ofNat (ka.2.1 b)) (m70 : sB.2.1 70 m ≠ 1 ∧ mRl sB m)
    (LK : ∀ o ∈ L, om.2.2.2.1 a o ∧ (om1.2.2.1.2.1 o = 0 ∨ om1.2.2.1.2.2.2.2 (om1.2.2.1.2.1 o) = 12 + (6 * b + j))) (LC : ∀ o ∈ L, ∀ f, f < (kc (ka.1 o)).1 → s'.2.2 107 (400 * (6 * b + j) + (la.2.2.1 o + f)) = om.1 (pO o f) ∧ (oV (om.1 (pO o f)) ≠ 0 → oV (om.1 (pO o f)) ∈ L)) (LB : ∀ o, 1 ≤ o → o ≤ 400 → (s'.2.1 105 (401 * (6 * b + j) + o) ≠ 0 ↔ o ∈ L))
    (cl : kCs a b sg sg') (c13 : sg'.1 13 = s'.1 82) (c4 : sg'.2.2.1 b 4 = Int32.ofNat (ms.1 b + 1)) (cm : sg'.2.2.2.1 b 10 ((ms.2.1 b + ms.1 b) % 6 * 7) = Int32.ofNat m) (co : ∀ i, i < ((ms.2.1 b + ms.1 b) % 6 * 7) ∨ ((ms.2.1 b + ms.1 b) % 6 * 7) + 6 < i → sg'.2.2.2.1 b 10 i = sg.2.2.2.1 b 10 i)
    (rf : kRs a b (6 * b + j) (ms.1 b) s s') (r94 : s'.2.1 94 b = Int32.ofNat (ms.1 b + 1)) (r104 : s'.2.1 104 (6 * b + j) = 1) (r102 : s'.2.1 102 (6 * b + ms.1 b) = Int32.ofNat (6 * b + j)) (r103 : s'.2.1 103 (6 * b + j) = Int32.ofNat m) :
    wAl sB kc (omS om1 a (6 * b + j) L) ka la (msS ms b j m N) (N + 1) cn sg' s' D := by
  have bd := w_bd w
  obtain ⟨⟨x1, x2⟩, gi, wn, wo, wd, wa⟩ := w
  have ac12 : ka.2.2.2 ≤ 12 := by obtain ⟨_, _, _, _, _, ⟨_, _, z⟩, _⟩ := wn; exact z
  have N0 : N ≠ 0 := by have := gi.2.2.2.2; omega
  have rr : ∀ p i, p ≠ 93 → p ≠ 104 → p ≠ 103 → p ≠ 102 → p ≠ 94 → p ≠ 105 → p ≠ 110 → s'.2.1 p i = s.2.1 p i := fun p i h1 h2 h3 h4 h5 h6 h7 => rf.2.1 p i (fun z => h1 z.1) (fun z => by rcases z.1 with y | y; exact h2 y; exact h3 y) (fun z => h4 z.1) (fun z => h5 z.1) (fun z => h6 z.1) h7
  have rl : ∀ p i, p ≠ 107 → p ≠ 106 → s'.2.2 p i = s.2.2 p i := fun p i h1 h2 => rf.2.2 p i (fun z => h1 z.1) (fun z => h2 z.1)
  have Es : ∀ y, y < N → om.2.2.1.2.2.2.2 y ≠ a → E y := fun y h1 h2 => hE y (Or.inr ⟨h1, h2⟩)
  have aM : a ≠ 12 + (6 * b + j) := by omega
  have eKn : om1.2.2.2.1 = om.2.2.2.1 := by rw [eK]
  have eRm : om1.2.2.2.2 = om.2.2.2.2 := by rw [eK]
  have kM : ∀ o, (omS om1 a (6 * b + j) L).2.2.2.1 (12 + (6 * b + j)) o ↔ o ∈ L := fun o => by
    show (if 12 + (6 * b + j) = 12 + (6 * b + j) then o ∈ L else _) ↔ _
    rw [if_pos rfl]
  have kA : ∀ o, (omS om1 a (6 * b + j) L).2.2.2.1 a o ↔ (om.2.2.2.1 a o ∧ (om1.2.2.1.2.1 o = 0 ∨ om1.2.2.1.2.2.2.2 (om1.2.2.1.2.1 o) = a)) := fun o => by
    show (if a = 12 + (6 * b + j) then o ∈ L else if a = a then om1.2.2.2.1 a o ∧ (om1.2.2.1.2.1 o = 0 ∨ om1.2.2.1.2.2.2.2 (om1.2.2.1.2.1 o) = a) else om1.2.2.2.1 a o) ↔ _
    rw [if_neg aM, if_pos rfl, eKn]
  have kO : ∀ d' o, d' ≠ 12 + (6 * b + j) → d' ≠ a → ((omS om1 a (6 * b + j) L).2.2.2.1 d' o ↔ om.2.2.2.1 d' o) := fun d' o h1 h2 => by
    show (if d' = 12 + (6 * b + j) then o ∈ L else if d' = a then om1.2.2.2.1 a o ∧ (om1.2.2.1.2.1 o = 0 ∨ om1.2.2.1.2.2.2.2 (om1.2.2.1.2.1 o) = a) else om1.2.2.2.1 d' o) ↔ _
    rw [if_neg h1, if_neg h2, eKn]
  have nf8 : ∀ o, 1 ≤ o → o ≤ ka.2.2.1 → (kc (ka.1 o)).1 ≤ 8 := fun o h1 h2 => (wo o h1 h2).1.2.2
  have cWO : ∀ o f, om1.1 (pO o f) = om.1 (pO o f) ∧ om1.2.1 (pO o f) = om.2.1 (pO o f) := fun o f => cW _ (Or.inl (by unfold pO; omega))
  have cWF : ∀ o f, om1.1 (pF o f) = om.1 (pF o f) ∧ om1.2.1 (pF o f) = om.2.1 (pF o f) := fun o f => cW _ (Or.inr (Or.inl (by unfold pF; omega)))
  have nPF : ∀ o f, ¬ Pq (pF o f) := fun o f z => (hP _ z).2.1 (by unfold pF; omega)
  have tyO : ∀ o f, 1 ≤ o → o ≤ ka.2.2.1 → f < (kc (ka.1 o)).1 → oV (om.1 (pO o f)) ≠ 0 → om1.2.1 (pO o f) ≠ 0 := by
    intro o f h1 h2 hf o0
    obtain ⟨_, _, _, _, _, _, _, z⟩ := wo o h1 h2
    obtain ⟨z1, z2, _⟩ := z f hf
    rw [(cWO o f).2, z1]
    exact (vTy_o z2 o0).2
  have ownF : ∀ Dd o f, 1 ≤ o → o ≤ ka.2.2.1 → f < (kc (ka.1 o)).1 → (om1.2.2.1.2.1 o = 0 ∨ om1.2.2.1.2.2.2.2 (om1.2.2.1.2.1 o) = Dd) → oV (om.1 (pO o f)) ≠ 0 → (om1.2.2.1.2.1 (oV (om.1 (pO o f))) = 0 ∨ om1.2.2.1.2.2.2.2 (om1.2.2.1.2.1 (oV (om.1 (pO o f)))) = Dd) := by
    intro Dd o f h1 h2 hf ow o0
    have e := (cWO o f).1
    have f8 := nf8 o h1 h2
    have := own_fl (om := om1) (Dd := Dd) gi' (by omega : o ≠ 0) (by omega : f < 8) (tyO o f h1 h2 hf o0) ow (by rw [e]; exact o0)
    rw [e] at this
    exact this
  have ownO : ∀ d' o, d' ≠ a → (om.2.2.1.2.1 o = 0 ∨ om.2.2.1.2.2.2.2 (om.2.2.1.2.1 o) = d') → (om1.2.2.1.2.1 o = 0 ∨ om1.2.2.1.2.2.2.2 (om1.2.2.1.2.1 o) = d') := by
    intro d' o hd h
    rcases h with h | h
    · left
      rw [st.2.2.1 o (by rw [h]; exact hE 0 (Or.inl rfl)), h]
    · right
      have e := Es _ (gi.2.1.2.1 o) (by rw [h]; exact hd)
      rw [st.2.2.1 o e, (st.1 _ e).2.1, h]
  have knO : ∀ d', d' ≠ 12 + (6 * b + j) → d' ≠ a → wKn kc om ka la s d' → (∀ y, y < 400 → cPy s' d' y = cPy s d' y) → wKn kc (omS om1 a (6 * b + j) L) ka la s' d' := by
    intro d' h1 h2 h cp o ho
    obtain ⟨z1, z2, z3⟩ := h o ((kO d' o h1 h2).mp ho)
    refine ⟨z1, ownO d' o h2 z2, fun f hf => ?_⟩
    obtain ⟨y1, y2⟩ := z3 f hf
    show cPy s' d' (la.2.2.1 o + f) = om1.1 (pO o f) ∧ (oV (om1.1 (pO o f)) ≠ 0 → (omS om1 a (6 * b + j) L).2.2.2.1 d' (oV (om1.1 (pO o f))))
    rw [(cWO o f).1, cp _ (bd o f z1.1 z1.2 hf)]
    exact ⟨y1, fun z => (kO d' _ h1 h2).mpr (y2 z)⟩
  have cpA : ∀ d' y, d' < 12 → cPy s' d' y = cPy s d' y := by
    intro d' y hd
    unfold cPy
    rw [if_pos hd, if_pos hd, rl 96 _ (by decide) (by decide)]
  have cpM : ∀ z y, y < 400 → z ≠ 6 * b + j → cPy s' (12 + z) y = cPy s (12 + z) y := by
    intro z y hy hz
    unfold cPy
    rw [if_neg (by omega), if_neg (by omega)]
    exact rf.2.2 107 _ (fun q => by omega) (fun q => absurd q.1 (by decide))
  have mb6 : ∃ mb, mb ≤ 6 ∧ sg.1 6 = Int32.ofNat mb := by
    obtain ⟨_, mb, _, _, ⟨z1, _, _, z2⟩, _⟩ := wn
    exact ⟨mb, z2, z1⟩
  have w6 : ms.1 b < 6 := by
    obtain ⟨mb, z1, z2⟩ := mb6
    have := room mb z1 z2
    omega
  -- the messages that were there
  have oldM : ∀ c k, c < ka.2.2.2 → k < ms.1 c → wM1 sB kc om ka la ms N sg s c k → wMs sB kc om ka la ms N sg s c → wM1 sB kc (omS om1 a (6 * b + j) L) ka la (msS ms b j m N) (N + 1) sg' s' c k := by
    intro c k hc hk hm hms
    obtain ⟨p1, p2, p3, ⟨p4, p5, p6', p7, p8⟩, ⟨p9, p10, p11⟩, ⟨ts, t1, t2, t3, t4⟩, p12, p13⟩ := hm
    have sne : 6 * c + ms.2.2.1 c k ≠ 6 * b + j := by
      by_cases e : c = b
      · rw [e] at hk ⊢
        have := jf k hk
        omega
      · omega
    have eo : (msS ms b j m N).2.2.1 c k = ms.2.2.1 c k := if_neg (fun z => by
      have h1 := z.2
      have h2 := z.1
      rw [h2] at hk
      omega)
    have em : (msS ms b j m N).2.2.2.1 (6 * c + ms.2.2.1 c k) = ms.2.2.2.1 (6 * c + ms.2.2.1 c k) := if_neg sne
    have er : (msS ms b j m N).2.2.2.2 (6 * c + ms.2.2.1 c k) = ms.2.2.2.2 (6 * c + ms.2.2.1 c k) := if_neg sne
    have ef : (msS ms b j m N).2.1 c = ms.2.1 c := rfl
    have Em : E (ms.2.2.2.2 (6 * c + ms.2.2.1 c k)) := Es _ p10 (by rw [p11]; omega)
    have f6 : ms.2.1 c < 6 := hms.2.1.1
    have c10 : ∀ i, i ≤ 6 → sg'.2.2.2.1 c 10 ((ms.2.1 c + k) % 6 * 7 + i) = sg.2.2.2.1 c 10 ((ms.2.1 c + k) % 6 * 7 + i) := by
      intro i hi
      by_cases e : c = b
      · rw [e] at hk f6 ⊢
        exact co _ (by omega)
      · rw [cl.2.2.2.1 c 10 (fun z => absurd z.2 (by decide)) (fun z => e z.1)]
    have nd : 12 + (6 * c + ms.2.2.1 c k) ≠ 12 + (6 * b + j) := by omega
    have na : 12 + (6 * c + ms.2.2.1 c k) ≠ a := by omega
    unfold wM1
    rw [eo, em, er, ef]
    refine ⟨p1, ?_, ?_, ⟨p4, ?_, ?_, p7, p8⟩, ⟨p9, by omega, ?_⟩, ⟨ts, t1, t2, t3, fun i t ht => ?_⟩, knO _ nd na p12 (fun y hy => cpM _ y hy sne), fun o h1 h2 => ?_⟩
    · rw [rf.2.1 102 _ (fun z => absurd z.1 (by decide)) (fun z => by omega) (fun z => by
        have h1 := z.2
        by_cases e : c = b
        · rw [e] at hk h1; omega
        · have := hms.1.1; omega) (fun z => absurd z.1 (by decide)) (fun z => absurd z.1 (by decide)) (by decide)]
      exact p2
    · rw [rf.2.1 104 _ (fun z => absurd z.1 (by decide)) (fun z => sne z.2) (fun z => absurd z.1 (by decide)) (fun z => absurd z.1 (by decide)) (fun z => absurd z.1 (by decide)) (by decide)]
      exact p3
    · rw [rf.2.1 103 _ (fun z => absurd z.1 (by decide)) (fun z => sne z.2) (fun z => absurd z.1 (by decide)) (fun z => absurd z.1 (by decide)) (fun z => absurd z.1 (by decide)) (by decide)]
      exact p5
    · have := c10 0 (by decide)
      rw [Nat.add_zero] at this
      rw [this]
      exact p6'
    · show om1.2.2.1.2.2.2.2 _ = _
      rw [(st.1 _ Em).2.1]
      exact p11
    · obtain ⟨u1, u2, u3, u4, u5⟩ := t4 i t ht
      have hi : i < 6 := by
        obtain ⟨z, _⟩ := List.getElem?_eq_some_iff.mp ht
        omega
      have l36 : pM (6 * c + ms.2.2.1 c k) i / 36 = 6 * c + ms.2.2.1 c k := by unfold pM; omega
      have l5 : pM (6 * c + ms.2.2.1 c k) i % 6 = 5 := by unfold pM; omega
      have e := cW (pM (6 * c + ms.2.2.1 c k) i) (Or.inr (Or.inr ⟨l5, by rw [l36]; exact sne⟩))
      refine ⟨e.2.trans u1, ?_, ?_, ?_, ?_⟩
      · show om1.2.2.1.1 _ = _
        rw [st.2.1 _ (fun z => sne (l36.symm.trans ((hP _ z).2.2 l5))) (by rw [u2]; exact Em)]
        exact u2
      · show vAl (omS om1 a (6 * b + j) L) ka _ t (om1.1 _)
        rw [e.1]
        exact ⟨u3.1, fun z => (kO _ _ nd na).mpr (u3.2 z)⟩
      · show _ = cvl (om1.1 _)
        rw [e.1, Nat.add_assoc, c10 (1 + i) (by omega), ← Nat.add_assoc]
        exact u4
      · show _ = om1.1 _
        rw [e.1, rf.2.2 106 _ (fun z => absurd z.1 (by decide)) (fun z => by omega)]
        exact u5
    · rw [rf.2.1 105 _ (fun z => absurd z.1 (by decide)) (fun z => by omega) (fun z => absurd z.1 (by decide)) (fun z => absurd z.1 (by decide)) (fun z => by omega) (by decide)]
      exact (p13 o h1 h2).trans (kO _ o nd na).symm
  refine ⟨⟨fun p hp => ?_, fun p hp => ?_⟩, gi', ?_, fun o h1 h2 => ?_, wd, fun c hc => ?_⟩
  · funext i; rw [rr p i (by omega) (by omega) (by omega) (by omega) (by omega) (by omega) (by omega), x1 p hp]
  · funext i; rw [rl p i (by omega) (by omega), x2 p hp]
  · obtain ⟨clm, mb, tn, n1, n2, n3, n4, n5, n6, n7, ⟨n8, n8b, n8c, n8d⟩, ⟨n9, n9b, n9c⟩, n10, n11⟩ := wn
    have cs : ∀ j, j ≠ 13 → sg'.1 j = sg.1 j := cl.1
    have rs : ∀ p, p ≠ 82 → s'.1 p = s.1 p := rf.1
    unfold wNm
    rw [cs 5 (by decide), cs 6 (by decide), cs 8 (by decide), cs 9 (by decide), cs 10 (by decide), cs 11 (by decide), cs 12 (by decide), cs 14 (by decide), cs 15 (by decide), rs 78 (by decide), rs 79 (by decide), rs 75 (by decide), rs 76 (by decide), rs 77 (by decide), rs 87 (by decide), rs 80 (by decide), rs 81 (by decide), rs 83 (by decide), rs 84 (by decide), rs 74 (by decide), cl.2.1]
    refine ⟨clm, mb, tn, n1, n2, n3, n4, n5, n6, n7, ⟨n8, n8b, n8c, fun i h1 h2 => by rw [rr 108 i (by decide) (by decide) (by decide) (by decide) (by decide) (by decide) (by decide), rr 109 i (by decide) (by decide) (by decide) (by decide) (by decide) (by decide) (by decide)]; exact n8d i h1 h2⟩, ⟨c13, n9b, n9c⟩, n10, fun c hc => ?_, fun b' h1 h2 => by rw [cl.2.2.1 b' 0 (fun z => by omega) (fun z => absurd z.2 (by decide)), cl.2.2.2.2 b' 13 (fun z => by omega)]; exact n11.2 b' h1 h2⟩
    show (if c = b then ms.1 b + 1 else ms.1 c) ≤ mb
    by_cases e : c = b
    · rw [if_pos e]
      have := room mb n2.2.2.2 n2.1
      omega
    · rw [if_neg e]; exact n11.1 c hc
  · obtain ⟨o1, o2, o3, o4, o5, o6, o7, o8⟩ := wo o h1 h2
    unfold wO1
    rw [cl.2.1, rr 87 o (by decide) (by decide) (by decide) (by decide) (by decide) (by decide) (by decide), rr 88 o (by decide) (by decide) (by decide) (by decide) (by decide) (by decide) (by decide)]
    refine ⟨o1, o2, o3, o4, o5, o6, o7, fun f hf => ?_⟩
    show om1.2.1 (pO o f) = _ ∧ vTy ka 0 _ (om1.1 (pO o f)) ∧ _ = cvl (om1.1 (pO o f))
    rw [(cWO o f).1, (cWO o f).2]
    exact o8 f hf
  · obtain ⟨k1, k2, k3⟩ := wa c hc
    have c12 : c < 12 := by omega
    have kc' : ∀ o, om.2.2.2.1 c o → (c = a → om1.2.2.1.2.1 o = 0 ∨ om1.2.2.1.2.2.2.2 (om1.2.2.1.2.1 o) = a) → (omS om1 a (6 * b + j) L).2.2.2.1 c o := by
      intro o h1 h2
      by_cases e : c = a
      · rw [e] at h1 ⊢
        exact (kA o).mpr ⟨h1, h2 e⟩
      · exact (kO c o (by omega) e).mpr h1
    refine ⟨?_, ?_, ?_⟩
    · by_cases e : c = a
      · rw [e]
        intro o ho
        obtain ⟨h1, h2⟩ := (kA o).mp ho
        obtain ⟨z1, z2, z3⟩ := (wa a ac).1 o h1
        refine ⟨z1, h2, fun f hf => ?_⟩
        obtain ⟨y1, y2⟩ := z3 f hf
        show cPy s' a (la.2.2.1 o + f) = om1.1 (pO o f) ∧ (oV (om1.1 (pO o f)) ≠ 0 → (omS om1 a (6 * b + j) L).2.2.2.1 a (oV (om1.1 (pO o f))))
        rw [(cWO o f).1, cpA a _ (by omega)]
        exact ⟨y1, fun z => (kA _).mpr ⟨y2 z, ownF a o f z1.1 z1.2 hf h2 z⟩⟩
      · exact knO c (by omega) e k1 (fun y _ => cpA c y c12)
    · obtain ⟨⟨a1, a2, a3⟩, ⟨a4, a5⟩, ⟨a6, a7⟩, ⟨a8, a9⟩, a10, ⟨a11, a12, a13⟩, a14⟩ := k2
      have eb : E (om.2.2.2.2 c) := by
        by_cases e : c = a
        · rw [e]; exact hEm
        · exact Es _ a12 (by rw [a13]; exact e)
      have rm : (omS om1 a (6 * b + j) L).2.2.2.2 = om.2.2.2.2 := eRm
      have cn' : ∀ j, j ≠ 13 → j ≠ 4 → sg'.2.2.1 c j = sg.2.2.1 c j := fun j h1 h2 => cl.2.2.1 c j (fun z => h1 z.2) (fun z => h2 z.2)
      have rc : ∀ p, p ≤ 92 → s'.2.1 p c = s.2.1 p c := fun p hp => rr p c (by omega) (by omega) (by omega) (by omega) (by omega) (by omega) (by omega)
      refine ⟨⟨?_, ?_, a3⟩, ⟨?_, ?_⟩, ⟨?_, ?_⟩, ⟨?_, ?_⟩, a10, ⟨by rw [rm]; exact a11, by rw [rm]; omega, ?_⟩, fun f hf => ?_⟩
      · rw [cn' 0 (by decide) (by decide)]; exact a1
      · rw [cl.2.2.2.2 c 1 (fun z => by omega)]; exact a2
      · rw [cn' 2 (by decide) (by decide)]; exact a4
      · rw [rc 89 (by decide)]; exact a5
      · rw [cn' 3 (by decide) (by decide)]; exact a6
      · rw [rc 92 (by decide)]; exact a7
      · rw [cn' 5 (by decide) (by decide), rc 90 (by decide)]; exact a8
      · rw [cn' 6 (by decide) (by decide), rc 91 (by decide)]; exact a9
      · rw [rm]
        show om1.2.2.1.2.2.2.2 _ = _
        rw [(st.1 _ eb).2.1]; exact a13
      · obtain ⟨f1, f2, f3, f4, f5⟩ := a14 f hf
        have e := cWF c f
        have hr : om1.2.2.1.1 (pF c f) = om.2.2.2.2 c := by rw [st.2.1 _ (nPF _ _) (by rw [f2]; exact eb)]; exact f2
        refine ⟨e.2.trans f1, by rw [rm]; exact hr, ?_, ?_, ?_⟩
        · show vAl (omS om1 a (6 * b + j) L) ka c _ (om1.1 (pF c f))
          rw [e.1]
          refine ⟨f3.1, fun z => kc' _ (f3.2 z) (fun ea => ?_)⟩
          have t0 : om1.2.1 (pF c f) ≠ 0 := by
            rw [e.2, f1]
            exact (vTy_o f3.1 z).2
          have := own_p (om := om1) (Dd := a) gi' t0 hr a11 (by rw [(st.1 _ eb).2.1, a13]; exact ea) (by rw [e.1]; exact z)
          rw [e.1] at this
          exact this
        · show _ = cvl (om1.1 (pF c f))
          rw [e.1, cl.2.1]; exact f4
        · show _ = om1.1 (pF c f)
          rw [e.1, rl 95 _ (by decide) (by decide)]; exact f5
    · have k30 := k3
      obtain ⟨⟨m1, m2, m3⟩, ⟨m4, m5⟩, m6, m7, m8⟩ := k3
      have g11 : sg'.2.2.1 c 11 = Int32.ofNat (ms.2.1 c) := by rw [cl.2.2.1 c 11 (fun z => absurd z.2 (by decide)) (fun z => absurd z.2 (by decide))]; exact m5
      by_cases e : c = b
      · subst e
        have e1 : (msS ms c j m N).1 c = ms.1 c + 1 := if_pos rfl
        unfold wMs
        rw [e1]
        refine ⟨⟨by omega, c4, r94⟩, ⟨m4, g11⟩, fun k hk => ?_, fun k k' hk hk' he => ?_, fun j' hj' hz => ?_⟩
        · by_cases ek : k = ms.1 c
          · -- the new one
            subst ek
            have eo : (msS ms c j m N).2.2.1 c (ms.1 c) = j := if_pos ⟨rfl, rfl⟩
            have em : (msS ms c j m N).2.2.2.1 (6 * c + j) = m := if_pos rfl
            have er : (msS ms c j m N).2.2.2.2 (6 * c + j) = N := if_pos rfl
            have ef : (msS ms c j m N).2.1 c = ms.2.1 c := rfl
            unfold wM1
            rw [eo, em, er, ef]
            refine ⟨j6, r102, r104, ⟨m72, r103, cm, m71, m70⟩, ⟨N0, by omega, oN⟩, ⟨ps, pm, p6, sd, fun i t ht => ?_⟩, fun o ho => ?_, fun o h1 h2 => ?_⟩
            · obtain ⟨u1, u2, u3, u4, u5, u6⟩ := args i t ht
              exact ⟨u1, u2, ⟨u3, fun z => (kM _).mpr (u4 z)⟩, u5, u6⟩
            · have hl := (kM o).mp ho
              obtain ⟨h1, h2⟩ := LK o hl
              obtain ⟨z1, _, _⟩ := (wa a ac).1 o h1
              refine ⟨z1, h2, fun f hf => ?_⟩
              obtain ⟨y1, y2⟩ := LC o hl f hf
              show cPy s' (12 + (6 * c + j)) (la.2.2.1 o + f) = om1.1 (pO o f) ∧ (oV (om1.1 (pO o f)) ≠ 0 → (omS om1 a (6 * c + j) L).2.2.2.1 (12 + (6 * c + j)) (oV (om1.1 (pO o f))))
              rw [(cWO o f).1]
              refine ⟨?_, fun z => (kM _).mpr (y2 z)⟩
              unfold cPy
              rw [if_neg (by omega), show 12 + (6 * c + j) - 12 = 6 * c + j from by omega]
              exact y1
            · exact (LB o h1 h2).trans (kM o).symm
          · exact oldM c k hc (by omega) (m6 k (by omega)) k30
        · have eo : ∀ q, q < ms.1 c → (msS ms c j m N).2.2.1 c q = ms.2.2.1 c q := fun q hq => if_neg (fun z => by have := z.2; omega)
          have en : (msS ms c j m N).2.2.1 c (ms.1 c) = j := if_pos ⟨rfl, rfl⟩
          by_cases h1 : k = ms.1 c
          · by_cases h2 : k' = ms.1 c
            · omega
            · rw [h1, en, eo k' (by omega)] at he
              exact absurd he.symm (jf k' (by omega))
          · by_cases h2 : k' = ms.1 c
            · rw [h2, en, eo k (by omega)] at he
              exact absurd he (jf k (by omega))
            · rw [eo k (by omega), eo k' (by omega)] at he
              exact m7 k k' (by omega) (by omega) he
        · have h1 : j' ≠ j := fun z => by
            have := hz (ms.1 c) (by omega)
            rw [show (msS ms c j m N).2.2.1 c (ms.1 c) = j from if_pos ⟨rfl, rfl⟩] at this
            exact this z.symm
          rw [rf.2.1 104 _ (fun z => absurd z.1 (by decide)) (fun z => by omega) (fun z => absurd z.1 (by decide)) (fun z => absurd z.1 (by decide)) (fun z => absurd z.1 (by decide)) (by decide)]
          refine m8 j' hj' (fun k hk => ?_)
          have := hz k (by omega)
          rw [show (msS ms c j m N).2.2.1 c k = ms.2.2.1 c k from if_neg (fun z => by have := z.2; omega)] at this
          exact this
      · have e1 : (msS ms b j m N).1 c = ms.1 c := if_neg e
        have eo : ∀ q, (msS ms b j m N).2.2.1 c q = ms.2.2.1 c q := fun q => if_neg (fun z => e z.1)
        unfold wMs
        rw [e1]
        refine ⟨⟨m1, ?_, ?_⟩, ⟨m4, g11⟩, fun k hk => oldM c k hc hk (m6 k hk) k30, fun k k' hk hk' he => ?_, fun j' hj' hz => ?_⟩
        · rw [cl.2.2.1 c 4 (fun z => absurd z.2 (by decide)) (fun z => e z.1)]; exact m2
        · rw [rf.2.1 94 _ (fun z => absurd z.1 (by decide)) (fun z => by omega) (fun z => absurd z.1 (by decide)) (fun z => e z.2) (fun z => absurd z.1 (by decide)) (by decide)]; exact m3
        · rw [eo, eo] at he
          exact m7 k k' hk hk' he
        · rw [rf.2.1 104 _ (fun z => absurd z.1 (by decide)) (fun z => by omega) (fun z => absurd z.1 (by decide)) (fun z => absurd z.1 (by decide)) (fun z => absurd z.1 (by decide)) (by decide)]
          refine m8 j' hj' (fun k hk => ?_)
          have := hz k hk
          rw [eo] at this
          exact this
end JSK
