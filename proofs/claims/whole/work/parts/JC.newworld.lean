/-! A NEW OBJECT: the world. -/
def kaN (ka : kAp) (kk : Nat) : kAp := (fun o => if o = ka.2.2.1 + 1 then kk else ka.1 o, ka.2.1, ka.2.2.1 + 1, ka.2.2.2)
def laN (la : lAy) (ob nf : Nat) : lAy := (fun o => if o = ob + 1 then la.2.2.2.1 else la.1 o, la.2.1, fun o => if o = ob + 1 then la.2.2.2.2 else la.2.2.1 o, la.2.2.2.1 + nf + 1, la.2.2.2.2 + nf)
def omN (om : oMg) (N a ob nf R : Nat) (em : Nat → Int64) (ft : Nat → Nat) : oMg := (nwW om.1 (ob + 1) em, nwTy om.2.1 (ob + 1) nf ft, nwG (fsG om.2.2.1 N a) (ob + 1) R, fun d o => om.2.2.2.1 d o ∨ (d = a ∧ o = ob + 1), om.2.2.2.2)
def sgO (sg : cS) (tk nf ob : Nat) (cf : Nat → Int32) : cS := sW (sXc (sC (sXc sg 10 (Int32.ofNat (tk + nf + 1))) cf) 9 (Int32.ofNat (ob + 1))) 1 (ob + 1) (Int32.ofNat tk)
section NWO
variable {sB : rS} {A B : Nat → Int32} {mi : Nat → Nat × Nat × Nat × Nat × Nat} {kc : kCi} {om om' : oMg} {ka ka' : kAp} {la : lAy} {ms : mSg} {N N' cn : Nat} {sg sg' sg2 : cS} {s s' s2 S1 : rS} {a b d e lo q0 J l t r i n p q k k2 f0 w P L sz lv : Nat} {xs : Nat → Int32} {zf : Value} {Z : Nat → Prop} {hB h h' : rm_H} {es : List Nat} {x : Nat → Nat → fDs} {D : Nat → Nat} {S S0 X : List stE} {v : Int64} {y : Int32}
variable {kk R ob nf tk bd c0 : Nat} {em : Nat → Int64} {ft : Nat → Nat} {cf : Nat → Int32} {g : Nat → Int64}
theorem nw_W (h : obP l ≠ ob + 1) : (omN om N a ob nf R em ft).1 l = om.1 l := if_neg h
theorem nw_T (h : obP l ≠ ob + 1) : (omN om N a ob nf R em ft).2.1 l = om.2.1 l := if_neg h
theorem nw_H (h : obP l ≠ ob + 1) : (omN om N a ob nf R em ft).2.2.1.1 l = om.2.2.1.1 l := if_neg h
theorem ob_z (h : obP l = 0) : obP l ≠ ob + 1 := by omega
theorem nw_o {y : Nat} : (omN om N a ob nf R em ft).2.2.1.2.2.2.2 y = if N ≤ y then a else om.2.2.1.2.2.2.2 y := rfl
theorem nw_r {o : Nat} (h : o ≠ ob + 1) : (omN om N a ob nf R em ft).2.2.1.2.1 o = om.2.2.1.2.1 o := rg_up_ne _ h
theorem nw_re : (omN om N a ob nf R em ft).2.2.1.2.1 (ob + 1) = R := rg_up_eq _ _ _
theorem sgO_1 {j : Nat} (h : j ≠ 9) (h2 : j ≠ 10) : (sgO sg tk nf ob cf).1 j = sg.1 j := (upd_ne' h).trans (upd_ne' h2)
theorem sgO_0 : (sgO sg tk nf ob cf).2.1 0 = cf := rfl
theorem sgO_s : (sgO sg tk nf ob cf).2.1 1 = upd (sg.2.1 1) (ob + 1) (Int32.ofNat tk) := rfl
theorem sgO_9 : (sgO sg tk nf ob cf).1 9 = Int32.ofNat (ob + 1) := upd_eq' (g := upd sg.1 10 (Int32.ofNat (tk + nf + 1))) (i := 9) (v := Int32.ofNat (ob + 1))
theorem sgO_10 : (sgO sg tk nf ob cf).1 10 = Int32.ofNat (tk + nf + 1) := (upd_ne' (g := upd sg.1 10 (Int32.ofNat (tk + nf + 1))) (i := 9) (j := 10) (v := Int32.ofNat (ob + 1)) (by decide)).trans (upd_eq' (g := sg.1) (i := 10) (v := Int32.ofNat (tk + nf + 1)))
theorem sOb_87 : (sOb s c0 ob tk bd nf g).1 87 = Int32.ofNat (bd + nf) := upd_eq' (g := (rs_w (rs_w s 76 (Int32.ofNat (ob + 1))) 77 (Int32.ofNat (tk + (nf + 1)))).1) (i := 87) (v := Int32.ofNat (bd + nf))
theorem sOb_77 : (sOb s c0 ob tk bd nf g).1 77 = Int32.ofNat (tk + nf + 1) := (upd_ne' (g := (rs_w (rs_w s 76 (Int32.ofNat (ob + 1))) 77 (Int32.ofNat (tk + (nf + 1)))).1) (i := 87) (j := 77) (v := Int32.ofNat (bd + nf)) (by decide)).trans (upd_eq' (g := (rs_w s 76 (Int32.ofNat (ob + 1))).1) (i := 77) (v := Int32.ofNat (tk + (nf + 1))))
theorem sOb_76 : (sOb s c0 ob tk bd nf g).1 76 = Int32.ofNat (ob + 1) := (upd_ne' (g := (rs_w (rs_w s 76 (Int32.ofNat (ob + 1))) 77 (Int32.ofNat (tk + (nf + 1)))).1) (i := 87) (j := 76) (v := Int32.ofNat (bd + nf)) (by decide)).trans ((upd_ne' (g := (rs_w s 76 (Int32.ofNat (ob + 1))).1) (i := 77) (j := 76) (v := Int32.ofNat (tk + (nf + 1))) (by decide)).trans (upd_eq' (g := s.1) (i := 76) (v := Int32.ofNat (ob + 1))))
theorem sgO_w {j : Nat} (h : j ≠ 0) (h1 : j ≠ 1) : (sgO sg tk nf ob cf).2.1 j = sg.2.1 j := (if_neg h1).trans (if_neg h)
theorem sOb_1 {j : Nat} (h : j ≠ 76) (h2 : j ≠ 77) (h3 : j ≠ 87) : (sOb s c0 ob tk bd nf g).1 j = s.1 j := (upd_ne' (g := (rs_w (rs_w s 76 (Int32.ofNat (ob + 1))) 77 (Int32.ofNat (tk + (nf + 1)))).1) h3).trans ((upd_ne' (g := (rs_w s 76 (Int32.ofNat (ob + 1))).1) h2).trans (upd_ne' (g := s.1) h))
theorem sOb_I {p' i' : Nat} : (sOb s c0 ob tk bd nf g).2.1 p' i' = if p' = 88 ∧ i' = ob + 1 then Int32.ofNat bd else if p' = 87 ∧ i' = ob + 1 then Int32.ofNat c0 else s.2.1 p' i' := by
  show (rs_wA (rs_wA (rs_w (rs_w s 76 (Int32.ofNat (ob + 1))) 77 (Int32.ofNat (tk + (nf + 1)))) 87 (ob + 1) (Int32.ofNat c0)) 88 (ob + 1) (Int32.ofNat bd)).2.1 p' i' = _
  rw [wA_get, wA_get]
  rfl
theorem sOb_L {p' : Nat} : (sOb s c0 ob tk bd nf g).2.2 p' = if p' = 96 then g else s.2.2 p' := rfl
theorem kaX_n : kaX ka (kaN ka kk) := ⟨fun o ho => if_neg (by omega), fun _ _ => rfl, Nat.le_succ _, Nat.le_refl _⟩
theorem wAl_n (w : wAl sB kc om ka la ms N cn sg s D) (ac : a < ka.2.2.2) (k8 : kk < 8) (h66 : sB.2.1 66 kk = 0) (nf8 : (kc kk).1 ≤ 8) (room : ∀ cl, cl ≤ 400 → sg.1 5 = Int32.ofNat cl → la.2.2.2.1 + (kc kk).1 + 1 ≤ cl) (hem : ∀ f, f < (kc kk).1 → (∀ k' : kAp, vTy k' 0 ((kc kk).2.1 f) (em f)) ∧ oV (em f) = 0 ∧ cvl (em f) = 0) (R1 : R < N + 1) (Ro : R = N ∨ om.2.2.1.2.2.2.2 R = a)
    (c1 : cf la.2.2.2.1 = Int32.ofNat kk) (c2 : ∀ j, la.2.2.2.1 < j → j < la.2.2.2.1 + (kc kk).1 + 1 → cf j = 0) (c3 : ∀ j, j < la.2.2.2.1 ∨ la.2.2.2.1 + (kc kk).1 + 1 ≤ j → cf j = sg.2.1 0 j)
    (g1 : ∀ f, f < (kc kk).1 → g (400 * a + la.2.2.2.2 + f) = em f) (g2 : ∀ j, (j < 400 * a + la.2.2.2.2 ∨ 400 * a + la.2.2.2.2 + (kc kk).1 ≤ j) → g j = s.2.2 96 j) :
    wAl sB kc (omN om N a ka.2.2.1 (kc kk).1 R em (kc kk).2.1) (kaN ka kk) (laN la ka.2.2.1 (kc kk).1) ms (N + 1) cn (sgO sg la.2.2.2.1 (kc kk).1 ka.2.2.1 cf) (sOb s kk ka.2.2.1 la.2.2.2.1 la.2.2.2.2 (kc kk).1 g) D := by
  obtain ⟨⟨x1, x2⟩, gi, ⟨clm, mb, tn, ⟨n1, n1b, n1c⟩, n2, n3, ⟨n4, n4b⟩, ⟨n5, n5b, n5c⟩, ⟨n6, n6b⟩, n7, ⟨n8, n8b, n8c, n8d⟩, ⟨n9, n9b, n9c⟩, n10, n11⟩, wo, wd, wa⟩ := w
  have rm := room clm n1c n1
  have kx : kaX ka (kaN ka kk) := kaX_n
  have nO : ∀ o f, o ≤ ka.2.2.1 → f < 8 → obP (pO o f) ≠ ka.2.2.1 + 1 := fun o f h1 h2 => by rw [ob_O h2]; omega
  have kO : ∀ o, o ≤ ka.2.2.1 → (kaN ka kk).1 o = ka.1 o := kx.1
  have lO : ∀ o, o ≤ ka.2.2.1 → (laN la ka.2.2.1 (kc kk).1).1 o = la.1 o := fun o h => if_neg (by omega)
  have lB : ∀ o, o ≤ ka.2.2.1 → (laN la ka.2.2.1 (kc kk).1).2.2.1 o = la.2.2.1 o := fun o h => if_neg (by omega)
  have kE : (kaN ka kk).1 (ka.2.2.1 + 1) = kk := if_pos rfl
  have lE : (laN la ka.2.2.1 (kc kk).1).1 (ka.2.2.1 + 1) = la.2.2.2.1 := if_pos rfl
  have lEb : (laN la ka.2.2.1 (kc kk).1).2.2.1 (ka.2.2.1 + 1) = la.2.2.2.2 := if_pos rfl
  have rr : ∀ p i, p ≠ 87 → p ≠ 88 → (sOb s kk ka.2.2.1 la.2.2.2.1 la.2.2.2.2 (kc kk).1 g).2.1 p i = s.2.1 p i := fun p i h1 h2 => by rw [sOb_I, if_neg (by omega), if_neg (by omega)]
  have rl : ∀ p, p ≠ 96 → (sOb s kk ka.2.2.1 la.2.2.2.1 la.2.2.2.2 (kc kk).1 g).2.2 p = s.2.2 p := fun p h => by rw [sOb_L, if_neg h]
  have ow : ∀ y, y < N → (omN om N a ka.2.2.1 (kc kk).1 R em (kc kk).2.1).2.2.1.2.2.2.2 y = om.2.2.1.2.2.2.2 y := fun y h => by rw [nw_o, if_neg (by omega)]
  have oR : (omN om N a ka.2.2.1 (kc kk).1 R em (kc kk).2.1).2.2.1.2.2.2.2 R = a := by
    rw [nw_o]
    rcases Ro with z | z
    · rw [if_pos (by omega)]
    · by_cases c : N ≤ R
      · rw [if_pos c]
      · rw [if_neg c]; exact z
  have cells : ∀ o, 1 ≤ o → o ≤ ka.2.2.1 → la.1 o + (kc (ka.1 o)).1 + 1 ≤ la.2.2.2.1 ∧ la.2.2.1 o + (kc (ka.1 o)).1 ≤ la.2.2.2.2 ∧ (kc (ka.1 o)).1 ≤ 8 := fun o h1 h2 => by
    obtain ⟨o1, o2, o3, o4, o5, o6, o7, o8⟩ := wo o h1 h2
    exact ⟨o6, o7, o1.2.2⟩
  have va : ∀ {b t v}, vAl om ka b t v → vAl (omN om N a ka.2.2.1 (kc kk).1 R em (kc kk).2.1) (kaN ka kk) b t v := fun h => ⟨vTy_k h.1 kx, fun z => Or.inl (h.2 z)⟩
  -- what owners know
  have cp : ∀ b y, (b < 12 ∨ 12 ≤ b) → y < la.2.2.2.2 → cPy (sOb s kk ka.2.2.1 la.2.2.2.1 la.2.2.2.2 (kc kk).1 g) b y = cPy s b y := by
    intro b y _ hy
    unfold cPy
    by_cases c : b < 12
    · rw [if_pos c, if_pos c, sOb_L, if_pos rfl]
      by_cases cb : b = a
      · rw [cb]; exact g2 _ (by omega)
      · exact g2 _ (by omega)
    · rw [if_neg c, if_neg c, rl 107 (by decide)]
  have kno : ∀ b, wKn kc om ka la s b → ∀ o, om.2.2.2.1 b o → (1 ≤ o ∧ o ≤ (kaN ka kk).2.2.1) ∧ ((omN om N a ka.2.2.1 (kc kk).1 R em (kc kk).2.1).2.2.1.2.1 o = 0 ∨ (omN om N a ka.2.2.1 (kc kk).1 R em (kc kk).2.1).2.2.1.2.2.2.2 ((omN om N a ka.2.2.1 (kc kk).1 R em (kc kk).2.1).2.2.1.2.1 o) = b) ∧ ∀ f, f < (kc ((kaN ka kk).1 o)).1 → cPy (sOb s kk ka.2.2.1 la.2.2.2.1 la.2.2.2.2 (kc kk).1 g) b ((laN la ka.2.2.1 (kc kk).1).2.2.1 o + f) = (omN om N a ka.2.2.1 (kc kk).1 R em (kc kk).2.1).1 (pO o f) ∧ (oV ((omN om N a ka.2.2.1 (kc kk).1 R em (kc kk).2.1).1 (pO o f)) ≠ 0 → (omN om N a ka.2.2.1 (kc kk).1 R em (kc kk).2.1).2.2.2.1 b (oV ((omN om N a ka.2.2.1 (kc kk).1 R em (kc kk).2.1).1 (pO o f)))) := by
    intro b hk o ho
    obtain ⟨h1, h2, h3⟩ := hk o ho
    obtain ⟨q1, q2, q3⟩ := cells o h1.1 h1.2
    refine ⟨⟨h1.1, Nat.le_succ_of_le h1.2⟩, ?_, fun f hf => ?_⟩
    · rw [nw_r (by omega), ow _ (gi.2.1.2.1 o)]
      exact h2
    · rw [kO o h1.2] at hf
      obtain ⟨z1, z2⟩ := h3 f hf
      rw [nw_W (nO o f h1.2 (by omega)), lB o h1.2, cp b _ (by omega) (by omega)]
      exact ⟨z1, fun z => Or.inl (z2 z)⟩
  refine ⟨⟨fun p hp => ?_, fun p hp => ?_⟩, GI_new (GI_fs gi (Nat.le_succ N)) R1 (fun f hf => (hem f hf).2.1), ⟨clm, mb, tn, ⟨?_, ?_, n1c⟩, ⟨?_, ?_, n2.2.2⟩, ⟨?_, ?_, n3.2.2⟩, ⟨?_, ?_⟩, ⟨?_, ?_, rm⟩, ⟨?_, ?_⟩, ?_, ⟨?_, ?_, n8c, fun i h1 h2 => ?_⟩, ⟨?_, ?_, ?_⟩, ?_, n11⟩, fun o h1 h2 => ?_, ⟨fun o o' h1 h2 h3 => ?_, wd.2.1, fun o b h1 h2 h3 => ?_⟩, fun b hb => ?_⟩
  · funext i; rw [rr p i (by omega) (by omega), x1 p hp]
  · rw [rl p (by omega), x2 p hp]
  · rw [sgO_1 (by decide) (by decide)]; exact n1
  · rw [sOb_1 (by decide) (by decide) (by decide)]; exact n1b
  · rw [sgO_1 (by decide) (by decide)]; exact n2.1
  · rw [sOb_1 (by decide) (by decide) (by decide)]; exact n2.2.1
  · rw [sgO_1 (by decide) (by decide)]; exact n3.1
  · rw [sOb_1 (by decide) (by decide) (by decide)]; exact n3.2.1
  · exact sgO_9
  · exact sOb_76
  · exact sgO_10
  · exact sOb_77
  · exact sOb_87
  · show la.2.2.2.2 + (kc kk).1 + (ka.2.2.1 + 1) + ka.2.2.2 ≤ la.2.2.2.1 + (kc kk).1 + 1
    omega
  · rw [sgO_1 (by decide) (by decide), sOb_1 (by decide) (by decide) (by decide)]; exact n7
  · rw [sgO_1 (by decide) (by decide)]; exact n8
  · rw [sOb_1 (by decide) (by decide) (by decide)]; exact n8b
  · rw [sgO_w (by decide) (by decide), sgO_w (by decide) (by decide), rr 108 _ (by decide) (by decide), rr 109 _ (by decide) (by decide)]; exact n8d i h1 h2
  · rw [sgO_1 (by decide) (by decide), sOb_1 (by decide) (by decide) (by decide)]; exact n9
  · rw [sgO_1 (by decide) (by decide), sOb_1 (by decide) (by decide) (by decide)]; exact n9b
  · rw [sgO_1 (by decide) (by decide), sOb_1 (by decide) (by decide) (by decide)]; exact n9c
  · rw [sOb_1 (by decide) (by decide) (by decide)]; exact n10
  · by_cases c : o = (ka.2.2.1 + 1)
    · subst c
      unfold wO1
      rw [kE, lE, lEb, sgO_s, sgO_0, upd_eq', sOb_I, sOb_I, if_neg (by omega), if_pos ⟨rfl, rfl⟩, if_pos ⟨rfl, rfl⟩]
      refine ⟨⟨k8, h66, nf8⟩, rfl, c1, rfl, rfl, Nat.le_refl _, Nat.le_refl _, fun f hf => ?_⟩
      have eo : obP (pO (ka.2.2.1 + 1) f) = (ka.2.2.1 + 1) := ob_O (by omega)
      have ef : pO (ka.2.2.1 + 1) f % 48 / 6 = f := by unfold pO; omega
      have eW : (omN om N a ka.2.2.1 (kc kk).1 R em (kc kk).2.1).1 (pO (ka.2.2.1 + 1) f) = em f := (if_pos eo).trans (by rw [ef])
      have eT : (omN om N a ka.2.2.1 (kc kk).1 R em (kc kk).2.1).2.1 (pO (ka.2.2.1 + 1) f) = (kc kk).2.1 f := (if_pos eo).trans (by rw [ef, if_pos hf])
      rw [eW, eT, c2 _ (by omega) (by omega), (hem f hf).2.2]
      exact ⟨rfl, (hem f hf).1 _, rfl⟩
    · have h2 : o ≤ ka.2.2.1 + 1 := h2
      have h2' : o ≤ ka.2.2.1 := by omega
      obtain ⟨o1, o2, o3, o4, o5, o6, o7, o8⟩ := wo o h1 h2'
      unfold wO1
      rw [kO o h2', lO o h2', lB o h2', sgO_s, sgO_0, upd_ne' c, c3 _ (by omega), sOb_I, sOb_I, if_neg (by omega), if_neg (by omega), if_neg (by omega), if_neg (by omega)]
      refine ⟨o1, o2, o3, o4, o5, ?_, ?_, fun f hf => ?_⟩
      · show _ ≤ la.2.2.2.1 + (kc kk).1 + 1
        omega
      · show _ ≤ la.2.2.2.2 + (kc kk).1
        omega
      · have := o1.2.2
        rw [nw_W (nO o f h2' (by omega)), nw_T (nO o f h2' (by omega)), c3 _ (by omega)]
        obtain ⟨z1, z2, z3⟩ := o8 f hf
        exact ⟨z1, vTy_k z2 kx, z3⟩
  · have h3 : o' ≤ ka.2.2.1 + 1 := h3
    have ho : o ≤ ka.2.2.1 := by omega
    rw [kO o ho, lO o ho, lB o ho]
    by_cases c : o' = (ka.2.2.1 + 1)
    · rw [c, lE, lEb]
      exact ⟨(cells o h1 ho).1, (cells o h1 ho).2.1⟩
    · have ho' : o' ≤ ka.2.2.1 := by omega
      rw [lO o' ho', lB o' ho']
      exact wd.1 o o' h1 h2 ho'
  · have h2 : o ≤ ka.2.2.1 + 1 := h2
    by_cases c : o = (ka.2.2.1 + 1)
    · right
      rw [c, lE]
      exact (wa b h3).2.1.2.2.2.2.1
    · rw [kO o (by omega), lO o (by omega)]
      exact wd.2.2 o b h1 (by omega) h3
  · obtain ⟨k1, k2, k3⟩ := wa b hb
    refine ⟨fun o ho => ?_, ?_, ?_⟩
    · rcases ho with ho | ⟨hb', ho⟩
      · exact kno b k1 o ho
      · subst hb' ho
        refine ⟨⟨Nat.succ_le_succ (Nat.zero_le _), Nat.le_refl _⟩, Or.inr (by rw [nw_re]; exact oR), fun f hf => ?_⟩
        rw [kE] at hf
        have eo : obP (pO (ka.2.2.1 + 1) f) = (ka.2.2.1 + 1) := ob_O (by omega)
        have ef : pO (ka.2.2.1 + 1) f % 48 / 6 = f := by unfold pO; omega
        have eW : (omN om N b ka.2.2.1 (kc kk).1 R em (kc kk).2.1).1 (pO (ka.2.2.1 + 1) f) = em f := (if_pos eo).trans (by rw [ef])
        have ac12 := n3.2.2
        rw [eW, lEb]
        refine ⟨?_, fun z => absurd (hem f hf).2.1 z⟩
        unfold cPy
        rw [if_pos (by omega), sOb_L, if_pos rfl, ← Nat.add_assoc]
        exact g1 f hf
    · obtain ⟨⟨a1, a2, a3⟩, ⟨a4, a5⟩, ⟨a6, a7⟩, ⟨a8, a9⟩, a10, ⟨a11, a12, a13⟩, a14⟩ := k2
      refine ⟨⟨a1, a2, a3⟩, ⟨a4, ?_⟩, ⟨a6, ?_⟩, ⟨?_, ?_⟩, ?_, ⟨a11, Nat.lt_succ_of_lt a12, (ow _ a12).trans a13⟩, fun f hf => ?_⟩
      · rw [rr 89 b (by decide) (by decide)]; exact a5
      · rw [rr 92 b (by decide) (by decide)]; exact a7
      · rw [rr 90 b (by decide) (by decide)]; exact a8
      · rw [rr 91 b (by decide) (by decide)]; exact a9
      · show _ ≤ la.2.2.2.1 + (kc kk).1 + 1
        have a10 : la.2.1 b + (kc (ka.2.1 b)).1 + 1 ≤ la.2.2.2.1 := a10
        exact Nat.le_trans a10 (by omega)
      · obtain ⟨f1, f2, f3, f4, f5⟩ := a14 f hf
        have hf : f < (kc (ka.2.1 b)).1 := hf
        rw [nw_W (ob_z ob_F), nw_T (ob_z ob_F), nw_H (ob_z ob_F), sgO_0, rl 95 (by decide)]
        refine ⟨f1, f2, va f3, ?_, f5⟩
        show cf (la.2.1 b + 1 + f) = _
        rw [c3 _ (by omega)]
        exact f4
    · obtain ⟨⟨m1, m2, m3⟩, m5, m6, m7, m8⟩ := k3
      refine ⟨⟨m1, m2, ?_⟩, m5, fun k hk => ?_, m7, fun j hj hz => ?_⟩
      · rw [rr 94 b (by decide) (by decide)]; exact m3
      · obtain ⟨p1, p2, p3, ⟨p4, p5, p6, p7, p8⟩, ⟨p9, p10, p11⟩, ⟨ts, t1, t2, t3, t4⟩, p12, p13⟩ := m6 k hk
        refine ⟨p1, by rw [rr 102 _ (by decide) (by decide)]; exact p2, by rw [rr 104 _ (by decide) (by decide)]; exact p3, ⟨p4, by rw [rr 103 _ (by decide) (by decide)]; exact p5, p6, p7, p8⟩, ⟨p9, Nat.lt_succ_of_lt p10, (ow _ p10).trans p11⟩, ⟨ts, t1, t2, t3, fun i t ht => ?_⟩, fun o ho => ?_, fun o h1 h2 => ?_⟩
        · obtain ⟨u1, u2, u3, u4, u5⟩ := t4 i t ht
          have oM : obP (pM (6 * b + ms.2.2.1 b k) i) = 0 := ob_n (by unfold pM; omega)
          rw [nw_W (ob_z oM), nw_T (ob_z oM), nw_H (ob_z oM), rl 106 (by decide)]
          exact ⟨u1, u2, va u3, u4, u5⟩
        · rcases ho with ho | ⟨hb', _⟩
          · exact kno _ p12 o ho
          · have := n3.2.2
            omega
        · rw [rr 105 _ (by decide) (by decide)]
          have := n3.2.2
          constructor
          · exact fun z => Or.inl ((p13 o h1 h2).mp z)
          · intro z
            rcases z with z | z
            · exact (p13 o h1 h2).mpr z
            · omega
      · rw [rr 104 _ (by decide) (by decide)]; exact m8 j hj hz
end NWO
