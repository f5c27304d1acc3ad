/-! A FIELD IS SWAPPED: the store, the world. -/
theorem sw_4 : ∀ c, c < 3 → ∀ e, e < 5 → ∀ c', c' < 5 → lkV 3 (Int32.ofNat c) (Int32.ofNat e) = Int32.ofNat c' → lkV 4 (Int32.ofNat c) (Int32.ofNat e) = Int32.ofNat c' := by decide +kernel
section JSW
variable {sB : rS} {A B : Nat → Int32} {mi : Nat → Nat × Nat × Nat × Nat × Nat} {kc : kCi} {om om' : oMg} {ka ka' : kAp} {la : lAy} {ms : mSg} {N N' cn : Nat} {sg sg' sg2 : cS} {s s' s2 S1 : rS} {a b d e lo q0 J l t r i n p q k k2 f0 w P L sz lv : Nat} {xs : Nat → Int32} {zf : Value} {Z : Nat → Prop} {hB h h' : rm_H} {es : List Nat} {x : Nat → Nat → fDs} {D : Nat → Nat} {S S0 X : List stE} {v : Int64} {y : Int32}
variable {E Pq : Nat → Prop} {c o f tf tv l0 l1 t1 u : Nat}
theorem bh_34 (c2 : c ≤ 2) (h : bhT 3 c tf t) : bhT 4 c tf t := by
  unfold bhT at h ⊢
  by_cases ot : isO tf = true
  · rw [if_pos ot] at h ⊢
    obtain ⟨c', h1, h2, h3⟩ := h
    have tc := isO_c ot
    exact ⟨c', h1, sw_4 c (by omega) (tf % 8) (by omega) c' h1 h2, h3⟩
  · rw [if_neg ot] at h ⊢
    exact h
/-- field f of u comes to l1, what is in l0 into the field -/
theorem GI_swp {ob : Nat} (gi : GI ob N om.1 om.2.1 om.2.2.1) (top : tOp om.2.2.1 E r) (E0 : E 0) (Er : E r) (hd : hLd om a c u r) (u1 : u ≠ 0) (uo : u ≤ ob) (c2 : c ≤ 2) (f8 : f < 8) (r0 : r ≠ 0) (rN : r < N) (ro : om.2.2.1.2.2.2.2 r = a) (t0 : om.2.1 l0 ≠ 0) (tf0 : tf ≠ 0) (hr : om.2.2.1.1 l0 = r) (nl : ¬ lOf a l0) (l6 : l0 % 6 = 3) (fit : oV (om.1 l0) = 0 ∨ (rg_good (om.2.1 l0 % 8) (tf % 8) ∧ tf % 8 ≤ 4 ∧ om.2.1 l0 % 8 ≤ 4)) (safe : oV (om.1 l0) ≠ 0 → c = 2 ∨ (c = 0 ∧ (om.2.1 l0 % 8 = 0 ∨ om.2.1 l0 % 8 = 3)) ∨ (c = 1 ∧ (om.2.1 l0 % 8 = 0 ∨ om.2.1 l0 % 8 = 1 ∨ om.2.1 l0 % 8 = 3))) (l16 : l1 % 6 = 4) (nl1 : ¬ lOf a l1) (hT : om.2.1 (pO u f) = tf) (t10 : t1 ≠ 0) (old : oV (om.1 (pO u f)) ≠ 0 → (2 ≤ t1 % 8 → rg_ok om.2.2.1.2.1 om.2.2.1.2.2.1 om.2.2.1.2.2.2.1 r (t1 % 8) (oV (om.1 (pO u f)))) ∧ (t1 % 8 ≤ 1 → t1 % 8 = tf % 8 ∧ (t1 % 8 = 1 → c = 2))) :
    (om.2.2.1.2.1 u ≠ 0 ∧ om.2.2.1.2.2.2.2 (om.2.2.1.2.1 u) = a) ∧ ∃ g' : rGt, GI ob N (wU (wU om.1 l1 (om.1 (pO u f))) (pO u f) (om.1 l0)) (rg_up (rg_up (rg_up om.2.1 l1 t1) l0 0) (pO u f) tf) g' ∧ g'.1 l1 = r ∧ rSt a a E (fun l => l = l1) om.2.2.1 g' := by
  have p6 : pO u f % 6 = 0 := by unfold pO; omega
  have ne0 : l0 ≠ pO u f := fun z => by rw [z] at l6; omega
  have ne1 : l0 ≠ l1 := fun z => by rw [z] at l6; omega
  have ne2 : pO u f ≠ l1 := fun z => by rw [z] at p6; omega
  have hob : obP (pO u f) = u := ob_O f8
  have hrk : om.2.2.1.1 (pO u f) = om.2.2.1.2.1 u := by
    have := gi.1.2.2.2 (pO u f) (by rw [hob]; exact u1)
    rw [hob] at this
    exact this
  have fst := (GI_fld (l0 := l0) (tf := tf) (f := f) gi top hd u1 uo c2 f8 r0 rN ro t0 tf0 hr nl (by omega) fit safe).1
  refine ⟨fst, ?_⟩
  have etF : tgF om.2.1 om.1 (pO u f) = oV (om.1 (pO u f)) := tgF_eq (by rw [hT]; exact tf0)
  have hob0 := gi.2.2.1 (pO u f)
  rw [etF] at hob0
  have o1 : obP l1 = 0 := ob_n (by omega)
  have go : ∀ (T1 : Nat → Nat) (g1 : rGt), GI ob N (wU om.1 l1 (om.1 (pO u f))) T1 g1 → g1.1 l1 = r → rSt a a E (fun l => l = l1) om.2.2.1 g1 → hLd (wU om.1 l1 (om.1 (pO u f)), T1, g1, om.2.2.2) a c u r → (∀ l, l ≠ pO u f → T1 l = rg_up om.2.1 l1 t1 l) → ∃ g' : rGt, GI ob N (wU (wU om.1 l1 (om.1 (pO u f))) (pO u f) (om.1 l0)) (rg_up (rg_up (rg_up om.2.1 l1 t1) l0 0) (pO u f) tf) g' ∧ g'.1 l1 = r ∧ rSt a a E (fun l => l = l1) om.2.2.1 g' := by
    intro T1 g1 i1 i2 i3 hd1 eT
    have w0 : wU om.1 l1 (om.1 (pO u f)) l0 = om.1 l0 := wU_ne ne1
    have x0 : T1 l0 = om.2.1 l0 := by rw [eT l0 ne0, rg_up_ne _ ne1]
    have y0 : g1.1 l0 = r := by
      rw [i3.2.1 l0 ne1 (by rw [hr]; exact Er)]
      exact hr
    obtain ⟨_, g2, j1, j2⟩ := GI_fld (om := (wU om.1 l1 (om.1 (pO u f)), T1, g1, om.2.2.2)) (l0 := l0) (tf := tf) (f := f) i1 (tOp_k top i3) hd1 u1 uo c2 f8 r0 rN (by show g1.2.2.2.2 r = a; rw [(i3.1 r Er).2.1]; exact ro) (by show T1 l0 ≠ 0; rw [x0]; exact t0) tf0 y0 nl (by omega) (by
      show oV (wU om.1 l1 (om.1 (pO u f)) l0) = 0 ∨ (rg_good (T1 l0 % 8) (tf % 8) ∧ tf % 8 ≤ 4 ∧ T1 l0 % 8 ≤ 4)
      rw [w0, x0]; exact fit) (by
      show oV (wU om.1 l1 (om.1 (pO u f)) l0) ≠ 0 → c = 2 ∨ (c = 0 ∧ (T1 l0 % 8 = 0 ∨ T1 l0 % 8 = 3)) ∨ (c = 1 ∧ (T1 l0 % 8 = 0 ∨ T1 l0 % 8 = 1 ∨ T1 l0 % 8 = 3))
      rw [w0, x0]; exact safe)
    have j1 : GI ob N (wU (wU om.1 l1 (om.1 (pO u f))) (pO u f) (wU om.1 l1 (om.1 (pO u f)) l0)) (rg_up (rg_up T1 l0 0) (pO u f) tf) g2 := j1
    rw [w0] at j1
    have eTT : rg_up (rg_up T1 l0 0) (pO u f) tf = rg_up (rg_up (rg_up om.2.1 l1 t1) l0 0) (pO u f) tf := by
      funext l
      by_cases z : l = pO u f
      · rw [z, rg_up_eq, rg_up_eq]
      · rw [rg_up_ne _ z, rg_up_ne _ z]
        by_cases z2 : l = l0
        · rw [z2, rg_up_eq, rg_up_eq]
        · rw [rg_up_ne _ z2, rg_up_ne _ z2, eT l z]
    rw [eTT] at j1
    have j2 : rSt a a E (fun _ => False) g1 g2 := j2
    exact ⟨g2, j1, by rw [j2.2.1 l1 id (by rw [i2]; exact Er)]; exact i2, rSt_u E0 i3 (rSt_P j2 (fun _ h => h.elim))⟩
  by_cases en : oV (om.1 (pO u f)) ≠ 0 ∧ t1 % 8 ≤ 1
  · obtain ⟨o0, c1⟩ := en
    obtain ⟨e1, e2⟩ := (old o0).2 c1
    have ecp : cpF om.2.1 (pO u f) = tf % 8 := by unfold cpF; rw [hT]
    have ie := inR_e gi.1 (l := pO u f) (by rw [etF]; exact o0) (by rw [hrk]; exact fst.1) (by rw [ecp]; omega)
    rw [etF, hrk] at ie
    have ru : inR om.2.2.1 r (om.2.2.1.2.1 u) ∧ (c = 2 → om.2.2.1.2.1 u = r) := by
      by_cases c22 : c = 2
      · have : om.2.2.1.2.1 u = r := by
          rcases hd.1 with z | z
          · rcases z with z | z | ⟨_, z | z | z | z | z⟩
            · exact absurd z u1
            · exact absurd z.1 r0
            · omega
            · exact z.2
            · omega
            · omega
            · omega
          · omega
        rw [this]
        exact ⟨inR_r, fun _ => rfl⟩
      · obtain ⟨h1, lx, l1', l2, l3, l4, l5⟩ := hd.2 (by omega)
        have ix := inR_e gi.1 (l := lx) l2 (by rw [l4]; exact r0) l3
        rw [l4] at ix
        exact ⟨inR_t ix.1 l5, fun z => absurd z c22⟩
    have nr : ¬ inR om.2.2.1 (om.2.2.1.2.1 (oV (om.1 (pO u f)))) r := fun z => ie.2 (inR_t z ru.1)
    obtain ⟨g1, i1, i2, i3⟩ := GI_lay (a := a) (E := fun y => ¬ inR om.2.2.1 (om.2.2.1.2.1 (oV (om.1 (pO u f)))) y) (l0 := pO u f) (l1 := l1) (t1 := t1) (r1 := r) gi (fun z => ne2 z.symm) o1 (by rw [hT]; exact tf0) t10 (by rw [hrk]; exact fst.1) r0 rN (Or.inr (by rw [hT]; unfold rg_good; omega)) (fun _ => ⟨fun _ => ⟨nr, fun z => by
      right
      rw [hT] at z
      rw [hrk, ru.2 (e2 (by omega))]
      exact rg_Tr_refl, fun y hy => hy⟩, fun z => by rw [hT] at z; omega⟩)
    rw [ro] at i3
    have Eu : ¬ inR om.2.2.1 (om.2.2.1.2.1 (oV (om.1 (pO u f)))) (om.2.2.1.2.1 u) := ie.2
    have eru : g1.2.1 u = om.2.2.1.2.1 u := i3.2.2.1 u Eu
    have kE : ∀ y, E y → ¬ inR om.2.2.1 (om.2.2.1.2.1 (oV (om.1 (pO u f)))) y := fun y hy hin => by
      by_cases cy : y = r
      · rw [cy] at hin; exact nr hin
      · exact top y hy cy (inR_t ru.1 (inR_t ie.1 hin))
    refine go _ g1 i1 i2 (rSt_E i3 kE) ⟨?_, fun c1' => ?_⟩ (fun l hl => ?_)
    · show rg_ok g1.2.1 g1.2.2.1 g1.2.2.2.1 r c u ∨ (c = 0 ∧ g1.2.1 u ≠ 0)
      have c012 : c = 0 ∨ c = 1 ∨ c = 2 := by omega
      rcases c012 with z | z | z
      · exact Or.inr ⟨z, by rw [eru]; exact fst.1⟩
      · left
        obtain ⟨k1, k2⟩ : om.2.2.1.2.2.2.1 (om.2.2.1.2.1 u) = 2 ∧ om.2.2.1.2.2.1 (om.2.2.1.2.1 u) = r := by
          rcases hd.1 with y | y
          · rcases y with y | y | ⟨_, y | y | y | y | y⟩
            · exact absurd y u1
            · exact absurd y.1 r0
            · omega
            · omega
            · omega
            · exact y.2.2
            · omega
          · omega
        refine Or.inr (Or.inr ⟨r0, Or.inr (Or.inr (Or.inr (Or.inl ⟨z, by rw [eru]; exact fst.1, ?_, ?_⟩)))⟩)
        · rw [eru, (i3.1 _ Eu).1]; exact k1
        · rw [eru, (i3.1 _ Eu).2.2.1 (by rw [k1]; decide)]; exact k2
      · left
        exact Or.inr (Or.inr ⟨r0, Or.inr (Or.inl ⟨z, by rw [eru]; exact ru.2 z⟩)⟩)
    · obtain ⟨_, lx, x1, x2, x3, x4, x5⟩ := hd.2 c1'
      have nex : lx ≠ l1 := fun z => nl1 (z ▸ x1)
      have nlf : lx ≠ pO u f := fun z => by
        rw [z, etF] at x5
        exact ie.2 x5
      have etg : tgF (rg_up (rg_up om.2.1 (pO u f) 0) l1 t1) (wU om.1 l1 (om.1 (pO u f))) lx = tgF om.2.1 om.1 lx := by
        unfold tgF
        rw [rg_up_ne _ nex, rg_up_ne _ nlf, wU_ne nex]
      have Ex : ¬ inR om.2.2.1 (om.2.2.1.2.1 (oV (om.1 (pO u f)))) (om.2.2.1.2.1 (tgF om.2.1 om.1 lx)) := fun z => ie.2 (inR_t z x5)
      refine ⟨by show g1.2.1 u ≠ 0; rw [eru]; exact fst.1, lx, x1, ?_, ?_, ?_, ?_⟩
      · show tgF (rg_up (rg_up om.2.1 (pO u f) 0) l1 t1) (wU om.1 l1 (om.1 (pO u f))) lx ≠ 0
        rw [etg]; exact x2
      · show (rg_up (rg_up om.2.1 (pO u f) 0) l1 t1) lx % 8 ≤ 1
        rw [rg_up_ne _ nex, rg_up_ne _ nlf]; exact x3
      · show g1.1 lx = r
        rw [i3.2.1 lx nex (by rw [x4]; exact nr)]; exact x4
      · show inR g1 (g1.2.1 (tgF (rg_up (rg_up om.2.1 (pO u f) 0) l1 t1) (wU om.1 l1 (om.1 (pO u f))) lx)) (g1.2.1 u)
        rw [etg, eru, i3.2.2.1 _ Ex]
        exact ((i3.1 _ Eu).2.2.2 _).mpr x5
    · by_cases z : l = l1
      · rw [z, rg_up_eq, rg_up_eq]
      · rw [rg_up_ne _ z, rg_up_ne _ z, rg_up_ne _ hl]
  · have i1 := GI_put gi l1 t1 r (om.1 (pO u f)) o1 rN (Or.inr hob0) (by
      by_cases o0 : oV (om.1 (pO u f)) = 0
      · exact Or.inr (Or.inl o0)
      · have : 2 ≤ t1 % 8 := by
          by_cases z : t1 % 8 ≤ 1
          · exact absurd ⟨o0, z⟩ en
          · omega
        exact Or.inr (Or.inr ⟨this, (old o0).1 this⟩))
    refine go _ _ i1 (rg_up_eq _ _ _) rRo_st ⟨hd.1, fun c1' => ?_⟩ (fun _ _ => rfl)
    obtain ⟨x0, lx, x1, x2, x3, x4, x5⟩ := hd.2 c1'
    have nex : lx ≠ l1 := fun z => nl1 (z ▸ x1)
    have etg : tgF (rg_up om.2.1 l1 t1) (wU om.1 l1 (om.1 (pO u f))) lx = tgF om.2.1 om.1 lx := by
      unfold tgF
      rw [rg_up_ne _ nex, wU_ne nex]
    refine ⟨x0, lx, x1, ?_, ?_, ?_, ?_⟩
    · show tgF (rg_up om.2.1 l1 t1) (wU om.1 l1 (om.1 (pO u f))) lx ≠ 0
      rw [etg]; exact x2
    · show (rg_up om.2.1 l1 t1) lx % 8 ≤ 1
      rw [rg_up_ne _ nex]; exact x3
    · show rg_up om.2.2.1.1 l1 r lx = r
      rw [rg_up_ne _ nex]; exact x4
    · show inR om.2.2.1 (om.2.2.1.2.1 (tgF (rg_up om.2.1 l1 t1) (wU om.1 l1 (om.1 (pO u f))) lx)) (om.2.2.1.2.1 u)
      rw [etg]; exact x5
/-- field f of object o, that is a's, is written; what the stack holds may change -/
theorem wAl_fg {g' : rGt} {W' : Nat → Int64} {T' : Nat → Nat} (eV : W' (pO o f) = v) (eT : T' (pO o f) = tf) (cW : ∀ l, l ≠ pO o f → l % 6 = 0 ∨ l % 6 = 1 ∨ l % 6 = 5 → W' l = om.1 l ∧ T' l = om.2.1 l) (hP : ∀ l, Pq l → l % 6 = 3 ∨ l % 6 = 4) (w : wAl sB kc om ka la ms N cn sg s D) (ac : a < ka.2.2.2) (o1 : 1 ≤ o) (o2 : o ≤ ka.2.2.1) (hf : f < (kc (ka.1 o)).1) (htf : (kc (ka.1 o)).2.1 f = tf) (hT : om.2.1 (pO o f) = tf) (kn : om.2.2.2.1 a o) (ro : om.2.2.1.2.1 o ≠ 0) (oo : om.2.2.1.2.2.2.2 (om.2.2.1.2.1 o) = a) (v1 : vTy ka 0 tf (v)) (v2 : oV (v) ≠ 0 → om.2.2.2.1 a (oV (v))) (gi' : GI ka.2.2.1 N (W') (T') g') (st : rSt a a E Pq om.2.2.1 g') (hE : ∀ y, y = 0 ∨ (y < N ∧ om.2.2.1.2.2.2.2 y ≠ a) → E y) (hEm : E (om.2.2.2.2 a)) : wAl sB kc (W', T', g', om.2.2.2) ka la ms N cn (sW sg 0 (la.1 o + 1 + f) (cvl (v))) (rs_wB s 96 (400 * a + la.2.2.1 o + f) (v)) D := by
  have bd := w_bd w
  have w0 := w
  obtain ⟨⟨x1, x2⟩, gi, wn, wo, wd, wa⟩ := w
  have ac12 : ka.2.2.2 ≤ 12 := by obtain ⟨_, _, _, _, _, ⟨_, _, z⟩, _⟩ := wn; exact z
  have own := fun (d' o' : Nat) h => own_k (om' := (W', T', g', om.2.2.2)) (o := o') (d := d') gi st hE h
  have Es : ∀ y, y < N → om.2.2.1.2.2.2.2 y ≠ a → E y := fun y h1 h2 => hE y (Or.inr ⟨h1, h2⟩)
  obtain ⟨⟨_, _, nf8⟩, s1, s2, s3, s4, s5, s6, s7⟩ := wo o o1 o2
  have nPF : ∀ b i, ¬ Pq (pF b i) := fun b i z => by
    have := hP _ z
    unfold pF at this
    omega
  have nPM : ∀ b i, ¬ Pq (pM b i) := fun b i z => by
    have := hP _ z
    unfold pM at this
    omega
  have c0 : ((sW sg 0 (la.1 o + 1 + f) (cvl (v)))).2.1 0 = upd (sg.2.1 0) (la.1 o + 1 + f) (cvl (v)) := rfl
  have rl : ∀ p i, p ≠ 96 ∨ i ≠ 400 * a + la.2.2.1 o + f → ((rs_wB s 96 (400 * a + la.2.2.1 o + f) (v))).2.2 p i = s.2.2 p i := fun p i h => by
    rw [wB_get, if_neg (by omega)]
  have r96 : ((rs_wB s 96 (400 * a + la.2.2.1 o + f) (v))).2.2 96 (400 * a + la.2.2.1 o + f) = v := by rw [wB_get, if_pos ⟨rfl, rfl⟩]
  have bo400 := bd o f o1 o2 hf
  -- copies
  have cpo : ∀ d' y, y < 400 → (d' ≠ a ∨ y ≠ la.2.2.1 o + f) → cPy ((rs_wB s 96 (400 * a + la.2.2.1 o + f) (v))) d' y = cPy s d' y := by
    intro d' y hy h
    unfold cPy
    by_cases c : d' < 12
    · rw [if_pos c, if_pos c, rl 96 _ (by omega)]
    · rw [if_neg c, if_neg c, rl 107 _ (by omega)]
  have fld : ∀ o' f', 1 ≤ o' → o' ≤ ka.2.2.1 → f' < (kc (ka.1 o')).1 → (o' ≠ o ∨ f' ≠ f) → pO o' f' ≠ pO o f ∧ la.1 o' + 1 + f' ≠ la.1 o + 1 + f ∧ la.2.2.1 o' + f' ≠ la.2.2.1 o + f := by
    intro o' f' h1 h2 h3 h4
    obtain ⟨⟨_, _, nf8'⟩, _⟩ := wo o' h1 h2
    have dj : o' = o ∨ (la.1 o + (kc (ka.1 o)).1 + 1 ≤ la.1 o' ∧ la.2.2.1 o + (kc (ka.1 o)).1 ≤ la.2.2.1 o') ∨ (la.1 o' + (kc (ka.1 o')).1 + 1 ≤ la.1 o ∧ la.2.2.1 o' + (kc (ka.1 o')).1 ≤ la.2.2.1 o) := by
      rcases Nat.lt_trichotomy o' o with z | z | z
      · exact Or.inr (Or.inr (wd.1 o' o h1 z o2))
      · exact Or.inl z
      · exact Or.inr (Or.inl (wd.1 o o' o1 z h2))
    refine ⟨?_, ?_, ?_⟩
    · unfold pO; omega
    · rcases dj with z | z | z
      · subst z; omega
      · omega
      · omega
    · rcases dj with z | z | z
      · subst z; omega
      · omega
      · omega
  have knk : ∀ d', wKn kc om ka la s d' → (d' = a ∨ ∀ o', om.2.2.2.1 d' o' → o' ≠ o) → wKn kc (W', T', g', om.2.2.2) ka la ((rs_wB s 96 (400 * a + la.2.2.1 o + f) (v))) d' := by
    intro d' h hd o' ho
    obtain ⟨z1, z2, z3⟩ := h o' ho
    refine ⟨z1, own d' o' z2, fun f' hf' => ?_⟩
    obtain ⟨y1, y2⟩ := z3 f' hf'
    have b4 := bd o' f' z1.1 z1.2 hf'
    by_cases c : o' = o ∧ f' = f
    · obtain ⟨c1, c2⟩ := c
      have da : d' = a := by
        rcases hd with z | z
        · exact z
        · exact absurd c1 (z _ ho)
      rw [c1, c2, da]
      show cPy ((rs_wB s 96 (400 * a + la.2.2.1 o + f) (v))) a (la.2.2.1 o + f) = W' (pO o f) ∧ (oV (W' (pO o f)) ≠ 0 → om.2.2.2.1 a (oV (W' (pO o f))))
      rw [eV]
      refine ⟨?_, v2⟩
      unfold cPy
      rw [if_pos (by omega), ← Nat.add_assoc]
      exact r96
    · have ne := fld o' f' z1.1 z1.2 hf' (by omega)
      show cPy ((rs_wB s 96 (400 * a + la.2.2.1 o + f) (v))) d' (la.2.2.1 o' + f') = W' (pO o' f') ∧ (oV (W' (pO o' f')) ≠ 0 → om.2.2.2.1 d' (oV (W' (pO o' f'))))
      rw [(cW _ ne.1 (by unfold pO; omega)).1, cpo d' _ b4 (Or.inr ne.2.2)]
      exact ⟨y1, y2⟩
  have nokn : ∀ d', d' ≠ a → wKn kc om ka la s d' → ∀ o', om.2.2.2.1 d' o' → o' ≠ o := by
    intro d' hd h o' ho z
    obtain ⟨_, z2, _⟩ := h o' ho
    rw [z] at z2
    rcases z2 with y | y
    · exact ro y
    · exact hd (y.symm.trans oo)
  refine ⟨⟨x1, fun p hp => ?_⟩, gi', ?_, fun o' h1 h2 => ?_, wd, fun b hb => ?_⟩
  · funext i; rw [rl p i (Or.inl (by omega)), x2 p hp]
  · exact wn
  · obtain ⟨⟨k1, k2, k3⟩, q1, q2, q3, q4, q5, q6, q7⟩ := wo o' h1 h2
    have nek : la.1 o' ≠ la.1 o + 1 + f := by
      rcases Nat.lt_trichotomy o' o with z | z | z
      · have := (wd.1 o' o h1 z o2).1; omega
      · subst z; omega
      · have := (wd.1 o o' o1 z h2).1; omega
    refine ⟨⟨k1, k2, k3⟩, q1, ?_, q3, q4, q5, q6, fun f' hf' => ?_⟩
    · rw [c0, upd_ne' nek]; exact q2
    · obtain ⟨y1, y2, y3⟩ := q7 f' hf'
      by_cases c : o' = o ∧ f' = f
      · obtain ⟨c1, c2⟩ := c
        rw [c1, c2]
        refine ⟨eT.trans htf.symm, ?_, ?_⟩
        · show vTy ka 0 _ (W' (pO o f))
          rw [eV, htf]
          exact v1
        · show _ = cvl (W' (pO o f))
          rw [eV, c0, upd_eq']
      · have ne := fld o' f' h1 h2 hf' (by omega)
        have := cW (pO o' f') ne.1 (by unfold pO; omega)
        refine ⟨this.2.trans y1, ?_, ?_⟩
        · show vTy ka 0 _ (W' (pO o' f'))
          rw [this.1]; exact y2
        · show _ = cvl (W' (pO o' f'))
          rw [this.1, c0, upd_ne' ne.2.1]; exact y3
  · obtain ⟨k1, k2, k3⟩ := wa b hb
    refine ⟨knk b k1 (by
      by_cases c : b = a
      · exact Or.inl c
      · exact Or.inr (nokn b c k1)), ?_, ?_⟩
    · obtain ⟨a1, a4, a6, a8, a10, ⟨a11, a12, a13⟩, a14⟩ := k2
      have eb : E (om.2.2.2.2 b) := by
        by_cases c : b = a
        · rw [c]; exact hEm
        · exact Es _ a12 (by rw [a13]; exact c)
      refine ⟨a1, a4, a6, a8, a10, ⟨a11, a12, by rw [show ((W', T', g', om.2.2.2)).2.2.1.2.2.2.2 = g'.2.2.2.2 from rfl, (st.1 _ eb).2.1]; exact a13⟩, fun f' hf' => ?_⟩
      obtain ⟨f1, f2, f3, f4, f5⟩ := a14 f' hf'
      have := cW (pF b f') oF_ne.symm (by unfold pF; omega)
      have nec : la.2.1 b + 1 + f' ≠ la.1 o + 1 + f := by
        rcases wd.2.2 o b o1 o2 hb with z | z <;> omega
      refine ⟨this.2.trans f1, ?_, ?_, ?_, ?_⟩
      · show g'.1 (pF b f') = om.2.2.2.2 b
        rw [st.2.1 _ (nPF _ _) (by rw [f2]; exact eb)]; exact f2
      · show vAl (W', T', g', om.2.2.2) ka b _ (W' (pF b f'))
        rw [this.1]; exact ⟨f3.1, f3.2⟩
      · show _ = cvl (W' (pF b f'))
        rw [this.1, c0, upd_ne' nec]; exact f4
      · show _ = W' (pF b f')
        rw [this.1, rl 95 _ (Or.inl (by decide))]; exact f5
    · obtain ⟨m1, m4, m6, m7, m8⟩ := k3
      refine ⟨m1, m4, fun k hk => ?_, m7, m8⟩
      obtain ⟨p1, p2, p3, p4, ⟨p9, p10, p11⟩, ⟨ts, t1, t2, t3, t4⟩, p12, p13⟩ := m6 k hk
      have em : E (ms.2.2.2.2 (6 * b + ms.2.2.1 b k)) := Es _ p10 (by rw [p11]; omega)
      refine ⟨p1, p2, p3, p4, ⟨p9, p10, by rw [show ((W', T', g', om.2.2.2)).2.2.1.2.2.2.2 = g'.2.2.2.2 from rfl, (st.1 _ em).2.1]; exact p11⟩, ⟨ts, t1, t2, t3, fun i t ht => ?_⟩, knk _ p12 (Or.inr (nokn _ (by omega) p12)), p13⟩
      obtain ⟨u1, u2, u3, u4, u5⟩ := t4 i t ht
      have := cW (pM (6 * b + ms.2.2.1 b k) i) (by unfold pM pO; omega) (by unfold pM; omega)
      refine ⟨this.2.trans u1, ?_, ?_, ?_, ?_⟩
      · show g'.1 _ = _
        rw [st.2.1 _ (nPM _ _) (by rw [u2]; exact em)]; exact u2
      · show vAl (W', T', g', om.2.2.2) ka _ t (W' _)
        rw [this.1]; exact ⟨u3.1, u3.2⟩
      · show _ = cvl (W' _)
        rw [this.1]; exact u4
      · show _ = W' _
        rw [this.1, rl 106 _ (Or.inl (by decide))]; exact u5
/-- field f of actor a is written; what the stack holds may change -/
theorem wAl_fag {g' : rGt} {W' : Nat → Int64} {T' : Nat → Nat} (eV : W' (pF a f) = v) (eT : T' (pF a f) = tf) (cW : ∀ l, l ≠ pF a f → l % 6 = 0 ∨ l % 6 = 1 ∨ l % 6 = 5 → W' l = om.1 l ∧ T' l = om.2.1 l) (hP : ∀ l, Pq l → l = pF a f ∨ l % 6 = 3 ∨ l % 6 = 4) (w : wAl sB kc om ka la ms N cn sg s D) (ac : a < ka.2.2.2) (hf : f < (kc (ka.2.1 a)).1) (htf : (kc (ka.2.1 a)).2.1 f = tf) (v1 : vAl om ka a tf (v)) (gi' : GI ka.2.2.1 N (W') (T') g') (hr : g'.1 (pF a f) = om.2.2.2.2 a) (st : rSt a a E Pq om.2.2.1 g') (hE : ∀ y, y = 0 ∨ (y < N ∧ om.2.2.1.2.2.2.2 y ≠ a) → E y) (hEm : E (om.2.2.2.2 a)) : wAl sB kc (W', T', g', om.2.2.2) ka la ms N cn (sW sg 0 (la.2.1 a + 1 + f) (cvl (v))) (rs_wB s 95 (8 * a + f) (v)) D := by
  have bd := w_bd w
  obtain ⟨⟨x1, x2⟩, gi, wn, wo, wd, wa⟩ := w
  have ac12 : ka.2.2.2 ≤ 12 := by obtain ⟨_, _, _, _, _, ⟨_, _, z⟩, _⟩ := wn; exact z
  have own := fun (d' o' : Nat) h => own_k (om' := (W', T', g', om.2.2.2)) (o := o') (d := d') gi st hE h
  have Es : ∀ y, y < N → om.2.2.1.2.2.2.2 y ≠ a → E y := fun y h1 h2 => hE y (Or.inr ⟨h1, h2⟩)
  have na8 : (kc (ka.2.1 a)).1 ≤ 8 := (wa a ac).2.1.1.2.2.2.2
  have nPF : ∀ b i, pF b i ≠ pF a f → ¬ Pq (pF b i) := fun b i hn z => by
    rcases hP _ z with y | y
    · exact hn y
    · unfold pF at y
      omega
  have nPM : ∀ b i, ¬ Pq (pM b i) := fun b i z => by
    have := hP _ z
    unfold pM pF at this
    omega
  have c0 : ((sW sg 0 (la.2.1 a + 1 + f) (cvl (v)))).2.1 0 = upd (sg.2.1 0) (la.2.1 a + 1 + f) (cvl (v)) := rfl
  have rl : ∀ p i, p ≠ 95 ∨ i ≠ 8 * a + f → ((rs_wB s 95 (8 * a + f) (v))).2.2 p i = s.2.2 p i := fun p i h => by
    rw [wB_get, if_neg (by omega)]
  have r95 : ((rs_wB s 95 (8 * a + f) (v))).2.2 95 (8 * a + f) = v := by rw [wB_get, if_pos ⟨rfl, rfl⟩]
  have cp : ∀ d' y, cPy ((rs_wB s 95 (8 * a + f) (v))) d' y = cPy s d' y := by
    intro d' y
    unfold cPy
    rw [rl 96 _ (Or.inl (by decide)), rl 107 _ (Or.inl (by decide))]
  have pOn : ∀ o' f', W' (pO o' f') = om.1 (pO o' f') ∧ T' (pO o' f') = om.2.1 (pO o' f') := fun o' f' => cW _ oF_ne (by unfold pO; omega)
  have knk : ∀ d', wKn kc om ka la s d' → wKn kc (W', T', g', om.2.2.2) ka la ((rs_wB s 95 (8 * a + f) (v))) d' := fun d' h => wKn_k (om' := (W', T', g', om.2.2.2)) h (fun y _ => cp d' y) (fun o' f' _ _ _ => (pOn o' f').1) (own d') rfl bd
  refine ⟨⟨x1, fun p hp => ?_⟩, gi', ?_, fun o' h1 h2 => ?_, wd, fun b hb => ?_⟩
  · funext i; rw [rl p i (Or.inl (by omega)), x2 p hp]
  · exact wn
  · obtain ⟨⟨k1, k2, k3⟩, q1, q2, q3, q4, q5, q6, q7⟩ := wo o' h1 h2
    have dj := wd.2.2 o' a h1 h2 ac
    refine ⟨⟨k1, k2, k3⟩, q1, ?_, q3, q4, q5, q6, fun f' hf' => ?_⟩
    · rw [c0, upd_ne' (by omega)]; exact q2
    · obtain ⟨y1, y2, y3⟩ := q7 f' hf'
      refine ⟨(pOn o' f').2.trans y1, ?_, ?_⟩
      · show vTy ka 0 _ (W' (pO o' f'))
        rw [(pOn o' f').1]; exact y2
      · show _ = cvl (W' (pO o' f'))
        rw [(pOn o' f').1, c0, upd_ne' (by omega)]; exact y3
  · obtain ⟨k1, k2, k3⟩ := wa b hb
    refine ⟨knk b k1, ?_, ?_⟩
    · obtain ⟨a1, a4, a6, a8, a10, ⟨a11, a12, a13⟩, a14⟩ := k2
      have nb8 : (kc (ka.2.1 b)).1 ≤ 8 := a1.2.2.2.2
      have eb : E (om.2.2.2.2 b) := by
        by_cases c : b = a
        · rw [c]; exact hEm
        · exact Es _ a12 (by rw [a13]; exact c)
      refine ⟨a1, a4, a6, a8, a10, ⟨a11, a12, by rw [show ((W', T', g', om.2.2.2)).2.2.1.2.2.2.2 = g'.2.2.2.2 from rfl, (st.1 _ eb).2.1]; exact a13⟩, fun f' hf' => ?_⟩
      obtain ⟨f1, f2, f3, f4, f5⟩ := a14 f' hf'
      by_cases c : b = a ∧ f' = f
      · obtain ⟨c1, c2⟩ := c
        rw [c1, c2]
        refine ⟨eT.trans htf.symm, hr, ?_, ?_, ?_⟩
        · show vAl (W', T', g', om.2.2.2) ka a _ (W' (pF a f))
          rw [eV, htf]; exact ⟨v1.1, v1.2⟩
        · show _ = cvl (W' (pF a f))
          rw [eV, c0, upd_eq']
        · show _ = W' (pF a f)
          rw [eV]; exact r95
      · have nl : pF b f' ≠ pF a f := by unfold pF; omega
        have := cW (pF b f') nl (by unfold pF; omega)
        have nec : la.2.1 b + 1 + f' ≠ la.2.1 a + 1 + f := by
          rcases Nat.lt_trichotomy b a with z | z | z
          · have := wd.2.1 b a z ac; omega
          · subst z; omega
          · have := wd.2.1 a b z hb; omega
        refine ⟨this.2.trans f1, ?_, ?_, ?_, ?_⟩
        · show g'.1 (pF b f') = om.2.2.2.2 b
          rw [st.2.1 _ (nPF _ _ nl) (by rw [f2]; exact eb)]; exact f2
        · show vAl (W', T', g', om.2.2.2) ka b _ (W' (pF b f'))
          rw [this.1]; exact ⟨f3.1, f3.2⟩
        · show _ = cvl (W' (pF b f'))
          rw [this.1, c0, upd_ne' nec]; exact f4
        · show _ = W' (pF b f')
          rw [this.1, rl 95 _ (Or.inr (by omega))]; exact f5
    · obtain ⟨m1, m4, m6, m7, m8⟩ := k3
      refine ⟨m1, m4, fun k hk => ?_, m7, m8⟩
      obtain ⟨p1, p2, p3, p4, ⟨p9, p10, p11⟩, ⟨ts, t1, t2, t3, t4⟩, p12, p13⟩ := m6 k hk
      have em : E (ms.2.2.2.2 (6 * b + ms.2.2.1 b k)) := Es _ p10 (by rw [p11]; omega)
      refine ⟨p1, p2, p3, p4, ⟨p9, p10, by rw [show ((W', T', g', om.2.2.2)).2.2.1.2.2.2.2 = g'.2.2.2.2 from rfl, (st.1 _ em).2.1]; exact p11⟩, ⟨ts, t1, t2, t3, fun i t ht => ?_⟩, knk _ p12, p13⟩
      obtain ⟨u1, u2, u3, u4, u5⟩ := t4 i t ht
      have nl : pM (6 * b + ms.2.2.1 b k) i ≠ pF a f := by unfold pM pF; omega
      have := cW (pM (6 * b + ms.2.2.1 b k) i) nl (by unfold pM; omega)
      refine ⟨this.2.trans u1, ?_, ?_, ?_, ?_⟩
      · show g'.1 _ = _
        rw [st.2.1 _ (nPM _ _) (by rw [u2]; exact em)]; exact u2
      · show vAl (W', T', g', om.2.2.2) ka _ t (W' _)
        rw [this.1]; exact ⟨u3.1, u3.2⟩
      · show _ = cvl (W' _)
        rw [this.1]; exact u4
      · show _ = W' _
        rw [this.1, rl 106 _ (Or.inl (by decide))]; exact u5
end JSW
