/-! VALUES MOVE: names are set, swapped, consumed. -/
/-- no other live region lies in r -/
def tOp (g : rGt) (E : Nat → Prop) (r : Nat) : Prop := ∀ y, E y → y ≠ r → ¬ inR g r y
section JMV
variable {sB : rS} {A B : Nat → Int32} {mi : Nat → Nat × Nat × Nat × Nat × Nat} {kc : kCi} {om om' : oMg} {ka ka' : kAp} {la : lAy} {ms : mSg} {N N' cn : Nat} {sg sg' sg2 : cS} {s s' s2 S1 : rS} {a b d e lo q0 J l t r i n p q k k2 f0 w P L sz lv : Nat} {xs : Nat → Int32} {zf : Value} {Z : Nat → Prop} {hB h h' : rm_H} {es : List Nat} {x : Nat → Nat → fDs} {D : Nat → Nat} {S S0 X : List stE} {v : Int64} {y : Int32}
variable {E Pq : Nat → Prop} {g g' : rGt} {W : Nat → Int64} {T : Nat → Nat}
theorem tOp_k (h : tOp g E r) (st : rSt a b E Pq g g') : tOp g' E r := fun y hy hne hin => h y hy hne (((st.1 y hy).2.2.2 r).mp hin)
theorem tOp_of {j0 : Nat} (it : iTm sB A B mi kc om ka la ms N cn sg s D x a d) (hj : j0 ≤ fL (x a d)) : tOp om.2.2.1 (eLr om N a d (fL (x a d)) (x a)) (fRe (x a d) j0) := by
  obtain ⟨w, _, su, _, _, rg, _, od, _⟩ := it
  have hI := w.2.1.1
  intro y hy hne hin
  rcases hy with h | h | ⟨e, j, h1, h2⟩
  · rw [h] at hin
    exact (rg.1 j0 hj).1 (inR_0 hI hin)
  · have := inR_ow hI hin
    rw [(rg.1 j0 hj).2.2] at this
    exact h.2 this
  · have c' : fRe (x a d) j0 ≠ fRe (x a e) j := fun z => hne (h2.trans z.symm)
    rw [h2] at hin
    rcases h1 with z | z
    · exact (od e j j0 (Or.inl z) hj).1 c' hin
    · obtain ⟨z1, z2⟩ := z
      subst z1
      by_cases c2 : j < j0
      · exact (od e j j0 (Or.inr ⟨rfl, c2⟩) hj).1 c' hin
      · have hlt : j0 < j := by
          rcases Nat.lt_or_ge j0 j with z | z
          · exact z
          · have : j = j0 := by omega
            rw [this] at c'
            exact absurd rfl c'
        have tk0 := rg.2 j (by omega) z2
        obtain ⟨n, hn⟩ := hin
        cases n with
        | zero => exact c' (Eq.symm hn)
        | succ n => exact hn.1 tk0
/-- a value goes from l0 to a root l1 -/
theorem lay_x {ob l0 l1 t1 r1 : Nat} (gi : GI ob N W T g) (top : tOp g E r) (Er1 : E r1) (r0 : r ≠ 0) (q0 : r1 ≠ 0) (qN : r1 < N) (ow1 : g.2.2.2.2 r1 = b) (hl : l1 ≠ l0) (ho : obP l1 = 0) (t0 : T l0 ≠ 0) (t1n : t1 ≠ 0) (hr : g.1 l0 = r) (fit : oV (W l0) = 0 ∨ (rg_good (T l0 % 8) (t1 % 8) ∧ t1 % 8 ≤ 4 ∧ T l0 % 8 ≤ 4)) (hx : r1 = r ∨ oV (W l0) = 0 ∨ T l0 % 8 = 0 ∨ T l0 % 8 = 3) :
    ∃ g' : rGt, GI ob N (wU W l1 (W l0)) (rg_up (rg_up T l0 0) l1 t1) g' ∧ g'.1 l1 = r1 ∧ rSt a b E (fun y => y = l1) g g' := by
  have cd : oV (W l0) ≠ 0 → (T l0 % 8 ≤ 1 → ¬ inR g (g.2.1 (oV (W l0))) r1 ∧ (T l0 % 8 = 1 → t1 % 8 = 3 ∨ rg_Tr g.2.2.1 g.2.2.2.1 r1 (g.1 l0)) ∧ ∀ y, E y → ¬ inR g (g.2.1 (oV (W l0))) y) ∧ ((T l0 % 8 = 2 ∨ T l0 % 8 = 4) → r1 = g.1 l0) := by
    intro o0
    refine ⟨fun c1 => ?_, fun z => ?_⟩
    · have et : tgF T W l0 = oV (W l0) := tgF_eq t0
      have hh : g.1 l0 ≠ 0 := by rw [hr]; exact r0
      have ie := inR_e gi.1 (l := l0) (by rw [et]; exact o0) hh c1
      rw [et, hr] at ie
      have no : ∀ y, E y → ¬ inR g (g.2.1 (oV (W l0))) y := by
        intro y hy hin
        by_cases c : y = r
        · rw [c] at hin; exact ie.2 hin
        · exact top y hy c (inR_t ie.1 hin)
      refine ⟨no r1 Er1, fun z => Or.inr ?_, no⟩
      rcases hx with y | y | y | y
      · rw [hr, y]; exact rg_Tr_refl
      · exact absurd y o0
      · omega
      · omega
    · rw [hr]
      rcases hx with y | y | y | y
      · exact y
      · exact absurd y o0
      · omega
      · omega
  obtain ⟨g', i1, i2, i3⟩ := GI_lay (a := a) (E := E) (r1 := r1) gi hl ho t0 t1n (by rw [hr]; exact r0) q0 qN fit cd
  rw [ow1] at i3
  exact ⟨g', i1, i2, i3⟩
/-- A VALUE HAS COME TO THE STACK, the body goes on -/
theorem PSE {t p' q' b' j' lv' : Nat} {gn' : Int32} {S' : List stE} (it : iTm sB A B mi kc om ka la ms N cn sg s D x a d) (cl : kCl a d (fBs (x a d)) sg sg') (rf : kRf a d (fQ (x a d)) s s') (ch : ∀ l, ¬ cHg a d (fQ (x a d)) l → om'.1 l = om.1 l ∧ om'.2.1 l = om.2.1 l) (st : rSt a a (eLr om N a d (fL (x a d)) (x a)) (cHg a d (fQ (x a d))) om.2.2.1 om'.2.2.1) (gi' : GI ka.2.2.1 N om'.1 om'.2.1 om'.2.2.1) (eK : om'.2.2.2 = om.2.2.2)
    (pj : PJ A B j' b' p') (pt : PT sB A B (fMe (x a d)) (mi (fMe (x a d))).1 (mi (fMe (x a d))).2.1 (mi (fMe (x a d))).2.2.1 p' q' lv' (fG (x a d)) gn' S') (hS' : S' = (t, false, fL (x a d)) :: S0 ∨ ∃ t', vlF false t = (0, t') ∧ S' = (t', false, fL (x a d)) :: S0) (hl : fL (x a d) ≤ lv') (pf : eLv (fL (x a d)) S0) (gt : gTy t = true) (t6 : ¬ (8 ≤ t ∧ t % 8 = 6)) (n7 : sg'.2.2.2.1 a 7 d = Int32.ofNat b') (r99 : s'.2.1 99 (10 * a + d) = Int32.ofNat q')
    (nms : ∀ y ∈ fG (x a d), gn' &&& bt y.2.1 = 0 → nAm om' ka sg' s' a (10 * a + d) (fBs (x a d)) (fRe (x a d)) y) (ths : tHs sB om' ka sg' s' a d (fMe (x a d)) (fRe (x a d))) (svl : sVl (pEn om' ka sg' s' a (fBs (x a d) + (mi (fMe (x a d))).2.2.2.2) (fQ (x a d)) (fRe (x a d))) S0)
    (val : vAl om' ka a t (om'.1 (pS a (fQ (x a d) + S0.length)))) (hT : om'.2.1 (pS a (fQ (x a d) + S0.length)) = t) (hr : om'.2.2.1.1 (pS a (fQ (x a d) + S0.length)) = fRe (x a d) (fL (x a d))) (cT : sg'.2.2.2.1 a 12 (fBs (x a d) + (mi (fMe (x a d))).2.2.2.2 + S0.length) = cvl (om'.1 (pS a (fQ (x a d) + S0.length)))) (rT : s'.2.2 97 (10100 * a + (fQ (x a d) + S0.length)) = om'.1 (pS a (fQ (x a d) + S0.length)))
    (so : SOK sg' a (fBs (x a d) + (mi (fMe (x a d))).2.2.2.2 + S0.length + 1)) (r93 : s'.2.1 93 a = Int32.ofNat (fQ (x a d) + S0.length + 1)) : ∃ om2 N2 x2, rUn sB A B mi kc om2 ka la ms N2 cn sg' s' D x2 := by
  have it0 := it
  obtain ⟨_, _, _, _, _, _, nm, _⟩ := it0
  have eS' : S' = (t, false, fL (x a d)) :: S0 := by
    rcases hS' with z | ⟨t', z1, z2⟩
    · exact z
    · rcases vlF_c z1 with y | y | y
      · rw [y.1] at z2; exact z2
      · exact absurd ⟨y.1, y.2.1⟩ t6
      · exact absurd y.2.1 Bool.false_ne_true
  refine ⟨_, _, _, eNd2 it (Nat.le_refl _) cl rf ch st gi' eK pj pt n7 r99 (PT_rg pt).2 (nm.2.2.2.2.2.2.2 _ _ _ _ _ _ pt) hl nm.1 nm.2.1 nm.2.2.1 nms ths ?_ (fun y hy => ?_) (by rw [eS']; exact so) (by rw [eS']; exact r93)⟩
  · rw [eS']
    exact ⟨⟨val, cT, rT, Or.inl ⟨hT, fun _ => hr⟩, gt, fun z1 z2 => absurd ⟨z1, z2⟩ t6⟩, svl⟩
  · rw [eS'] at hy
    rcases List.mem_cons.mp hy with z | z
    · rw [z]; exact Nat.le_refl _
    · exact (pf y z).2
theorem gDs_u {G : List scN} {y z : scN} (h : gDs G) (h1 : y ∈ G) (h2 : z ∈ G) (e : y.2.1 = z.2.1) : y = z := by
  obtain ⟨i, hi⟩ := List.getElem?_of_mem h1
  obtain ⟨j, hj⟩ := List.getElem?_of_mem h2
  have := h i j y z hi hj e
  rw [this, hj] at hi
  exact (Option.some.inj hi).symm
/-- a name is given a value -/
theorem J_26n (cb : CB hB Z P A B sz es) (rh : RH (.ref P) n sg Z hB h) (hn : ka.2.2.2 ≤ n) (it : iTm sB A B mi kc om ka la ms N cn sg s D x a d) (n7 : sg.2.2.2.1 a 7 d = Int32.ofNat (p + 1)) (q4 : q < 4400) (hw : 10000 ≤ w) {u tv p0 : Nat} {y : scN} (eK : sB.2.1 44 q = Int32.ofNat 26) (e45 : sB.2.1 45 q = Int32.ofNat p0) (hp0 : p0 < 4400) (e4 : sB.2.1 44 p0 = 4) (eS : fSt (x a d) = (tv, false, fL (x a d)) :: S0) (hG : (fG (x a d))[i]? = some y) (h53 : sB.2.1 53 p0 = Int32.ofNat y.2.1) (yl : y.2.2.2 = fL (x a d)) (fit : fitC (cT tv) (cT y.2.2.1) = 0) (hA : A p = 11) (hB' : B p = sB.2.1 53 p0) (sc : SC sB A B (fMe (x a d)) (mi (fMe (x a d))).1 (mi (fMe (x a d))).2.1 (mi (fMe (x a d))).2.2.1 u q (p + 1) (fL (x a d)) (fG (x a d)) (fGn (x a d) &&& (bt y.2.1 ^^^ (-1))) S0) : jEx sB A B mi kc L xs zf w P Z hB k k2 n cn a d p q sg h s := by
  obtain ⟨⟨a12, d10, u1, u2, u3, u4⟩, rq, fx, b3, r92, b8, gi, rl, ob4⟩ := it_f it
  have it0 := it
  obtain ⟨wl, _, _, ⟨_, ac, _⟩, vl, rg, nm, _, _, so, r93, _⟩ := it0
  have hy : y ∈ fG (x a d) := List.mem_of_getElem? hG
  have s16 := (nm.1.1 y hy).1
  obtain ⟨sloc, dt⟩ := nm.2.2.1 y hy
  obtain ⟨q', bh, nx⟩ := AD_S nm.2.2.2.2.2.1 nm.2.2.2.2.1 sc nm.1 q4
  obtain ⟨om2, N2, x2, ru⟩ := J_nam (sl := y.2.1) (td := y.2.2.1) it eS (LV_SC sc) fit dt s16 sloc n7 nx nm.1 nm.2.1 nm.2.2.1 (fun z hz gz => by
    by_cases c : z.2.1 = y.2.1
    · rw [gDs_u nm.2.1 hz hy c]
      exact Or.inl ⟨rfl, rfl, yl⟩
    · exact Or.inr ⟨c, hz, bt_ne s16 (nm.1.1 z hz).1 (fun w => c w.symm) gz⟩)
  rw [eS] at so r93 u3
  have u3' : S0.length < 1010 := u3
  obtain ⟨h', e1, e2, e3, e4'⟩ := x_11 (L := L) (xs := xs) (zf := zf) (w := w) (k := k + 7) (ht := fBs (x a d) + (mi (fMe (x a d))).2.2.2.2 + S0.length) cb rh (by omega) hA so b3 (by omega) b8 (hB'.trans h53) (by have := so.2.1; omega)
  have hr := r_400n (k := k2 + 7) (i := 10 * a + d) (t := fQ (x a d) + S0.length) (K := 26) false rq a12 (by omega) q4 eK rfl e45 hp0 e4 (by rw [fx.1 53 (by decide)]; exact h53) s16 r93 (by omega) bh (by decide) (by omega : 6000 ≤ w)
  exact jEx_p e1 (act_sub (k := k2 + 11) rq q4 eK (Or.inr (Or.inl ⟨rfl, rfl⟩)) hr) e2 hn ac ru (CST_q e3 e4')
end JMV
