/-! A BODY IS ENTERED. -/
/-- live regions: n bodies that wait; all that is others' -/
def eSu (om : oMg) (N a nn : Nat) (xb : Nat → fDs) (y : Nat) : Prop := y = 0 ∨ (y < N ∧ om.2.2.1.2.2.2.2 y ≠ a) ∨ ∃ e j, e < nn ∧ j ≤ fL (xb e) ∧ y = fRe (xb e) j
/-- how body nn (method m, region R0, from bs, qs on) was called -/
def lnK (sB : rS) (mi : Nat → Nat × Nat × Nat × Nat × Nat) (om : oMg) (ka : kAp) (g : rGt) (a : Nat) (xb : Nat → fDs) (nn m R0 bs qs : Nat) : Prop := (nn = 0 ∧ bs = 0 ∧ qs = 0 ∧ R0 = om.2.2.2.2 a ∧ sB.2.1 71 m = Int32.ofNat (ka.2.1 a)) ∨ ∃ d, nn = d + 1 ∧ ∃ (t le : Nat) (S0 : List stE), fSt (xb d) = (t, false, le) :: S0 ∧ le ≤ fL (xb d) ∧ bs = fBs (xb d) + (mi (fMe (xb d))).2.2.2.2 + S0.length ∧ qs = fQ (xb d) + S0.length ∧
  ((sB.2.1 70 m = 1 ∧ rsT sB m t ∧ (R0 = fRe (xb d) le ∨ hmT sB m)) ∨
   (sB.2.1 70 m = 0 ∧ sB.2.1 75 m = -1 ∧ ∃ k cp : Nat, k < 8 ∧ cp < 5 ∧ sB.2.1 71 m = Int32.ofNat k ∧ sB.2.1 66 k = 0 ∧ t = 8 * (k + 1) + cp ∧ (((cp = 2 ∨ cp = 4) ∧ R0 = fRe (xb d) le) ∨ (g.2.2.2.1 R0 = 0 ∧ (cp = 0 ∨ cp = 1 ∨ cp = 3) ∧ ∀ d' j : Nat, d' ≤ d → j ≤ fL (xb d') → fRe (xb d') j ≠ R0))))
section ENT2
variable {sB : rS} {A B : Nat → Int32} {mi : Nat → Nat × Nat × Nat × Nat × Nat} {kc : kCi} {om om' : oMg} {ka ka' : kAp} {la : lAy} {ms : mSg} {N N' cn : Nat} {sg sg' sg2 : cS} {s s' s2 S1 : rS} {a b d e lo q0 J l t r i n p q k k2 f0 w P L sz lv : Nat} {xs : Nat → Int32} {zf : Value} {Z : Nat → Prop} {hB h h' : rm_H} {es : List Nat} {x : Nat → Nat → fDs} {D : Nat → Nat} {S S0 X : List stE} {v : Int64} {y : Int32}
variable {E Pl : Nat → Prop}
theorem eNt {nn m lvc qc pc R0 bs qs : Nat} {Gc : List scN} (wl : wAl sB kc om ka la ms N cn sg s D) (bo : ∀ b, b < ka.2.2.2 → b ≠ a → aBd sB A B mi om ka N sg s b (x b) (D b)) (su : fSu sB A B mi om ka N sg s a (x a) nn) (ac : a < ka.2.2.2) (n10 : nn < 10) (hE : ∀ y, eSu om N a nn (x a) y → E y) (ER : E R0) (Em : E (om.2.2.2.2 a)) (Elt : ∀ y, E y → y < N) (R1 : R0 ≠ 0) (Ro : om.2.2.1.2.2.2.2 R0 = a)
    (top : ∀ e j, e < nn → j ≤ fL (x a e) → R0 ≠ fRe (x a e) j → ¬ inR om.2.2.1 R0 (fRe (x a e) j))
    (lay : ∀ e, e < nn → ∀ S0 t, fSt (x a e) = t :: S0 → fBs (x a e) + (mi (fMe (x a e))).2.2.2.2 + S0.length ≤ bs ∧ fQ (x a e) + S0.length ≤ qs)
    (cl : kCm a sg sg') (rf : kRm a s s') (c7 : ∀ e, e < nn → sg'.2.2.2.1 a 7 e = sg.2.2.2.1 a 7 e ∧ sg'.2.2.2.1 a 8 e = sg.2.2.2.1 a 8 e ∧ sg'.2.2.2.1 a 9 e = sg.2.2.2.1 a 9 e) (c12 : ∀ i, i < bs → sg'.2.2.2.1 a 12 i = sg.2.2.2.1 a 12 i) (r99e : ∀ e, e < nn → s'.2.1 99 (10 * a + e) = s.2.1 99 (10 * a + e) ∧ s'.2.2 100 (10 * a + e) = s.2.2 100 (10 * a + e) ∧ ∀ sl, sl < 16 → s'.2.2 101 (16 * (10 * a + e) + sl) = s.2.2 101 (16 * (10 * a + e) + sl)) (r97 : ∀ k, k < qs → s'.2.2 97 (10100 * a + k) = s.2.2 97 (10100 * a + k))
    (hP : ∀ l, Pl l → aPl a l) (hPe : ∀ e, e < nn → ¬ Pl (pH (10 * a + e)) ∧ ∀ sl, sl < 16 → ¬ Pl (pN (10 * a + e) sl)) (hPs : ∀ k, k < qs → k < 10100 → ¬ Pl (pS a k)) (ch : ∀ l, ¬ Pl l → om'.1 l = om.1 l ∧ om'.2.1 l = om.2.1 l) (st : rSt a a E Pl om.2.2.1 om'.2.2.1) (gi' : GI ka.2.2.1 N om'.1 om'.2.1 om'.2.2.1) (eK : om'.2.2.2 = om.2.2.2)
    (pt : PT sB A B m (mi m).1 (mi m).2.1 (mi m).2.2.1 pc qc lvc Gc 0 []) (go : GO sB (mi m).2.1 (mi m).2.2.1 (mi m).2.2.2.1 0 Gc) (gd : gDs Gc) (gs : ∀ y ∈ Gc, y.2.1 < (mi m).2.2.2.2 ∧ dTy y.2.2.1 = true) (mo : mtOk sB A B mi m) (n7 : sg'.2.2.2.1 a 7 nn = Int32.ofNat pc) (r99 : s'.2.1 99 (10 * a + nn) = Int32.ofNat qc) (q4 : qc < 4400) (n8 : sg'.2.2.2.1 a 8 nn = Int32.ofNat bs)
    (nms : ∀ y ∈ Gc, nAm om' ka sg' s' a (10 * a + nn) bs (fun _ => R0) y) (ths : tHs sB om' ka sg' s' a nn m (fun _ => R0)) (lk : lnK sB mi om ka om'.2.2.1 a (x a) nn m R0 bs qs) (bq : qs ≤ 1010 * nn) (bb : bs ≤ 1026 * nn) (so : SOK sg' a (bs + (mi m).2.2.2.2)) (r93 : s'.2.1 93 a = Int32.ofNat qs) (g3 : sg'.2.2.1 a 3 = Int32.ofNat (nn + 1)) (r92 : s'.2.1 92 a = Int32.ofNat (nn + 1)) :
    rUn sB A B mi kc (om'.1, om'.2.1, fsG om'.2.2.1 N a, om'.2.2.2) ka la ms (N + lvc + 1) cn sg' s' (fun b => if b = a then nn + 1 else D b) (xU x a nn (m, lvc, Gc, 0, [], rUp (fun _ => R0) 0 N, bs, qs)) := by
  have ac12 : ka.2.2.2 ≤ 12 := by obtain ⟨_, _, ⟨_, _, _, _, _, ⟨_, _, z⟩, _⟩, _⟩ := wl; exact z
  have a12 : a < 12 := by omega
  have E0 : E 0 := hE 0 (Or.inl rfl)
  have Es : ∀ e j, e < nn → j ≤ fL (x a e) → E (fRe (x a e) j) := fun e j h1 h2 => hE _ (Or.inr (Or.inr ⟨e, j, h1, h2, rfl⟩))
  have st2 : rSt a a E Pl om.2.2.1 (fsG om'.2.2.1 N a) := rSt_u E0 st (fsG_st gi' Elt)
  have gi2 : GI ka.2.2.1 (N + lvc + 1) om'.1 om'.2.1 (fsG om'.2.2.1 N a) := GI_fs gi' (by omega)
  have hEo : ∀ y, y = 0 ∨ (y < N ∧ om.2.2.1.2.2.2.2 y ≠ a) → E y := fun y hy => by
    rcases hy with z | z
    · exact hE y (Or.inl z)
    · exact hE y (Or.inr (Or.inl z))
  have gi := wl.2.1
  refine ⟨wAl_g (om' := (om'.1, om'.2.1, fsG om'.2.2.1 N a, om'.2.2.2)) wl cl rf hP ch st2 hEo Em ⟨a12, ac⟩ gi2 (by omega) eK (fun b hb => if_neg hb) (by rw [if_pos rfl]; exact g3) (by rw [if_pos rfl]; exact r92), fun b hb => ?_⟩
  by_cases c : b = a
  · subst c
    have eD : (fun b_1 => if b_1 = b then nn + 1 else D b_1) b = nn + 1 := if_pos rfl
    rw [eD]
    have su' := fSu_g (om' := (om'.1, om'.2.1, fsG om'.2.2.1 N b, om'.2.2.2)) (N' := N + lvc + 1) su a12 ac (by omega) lay c7 c12 r99e r97 hPe hPs ch st2 Es (by omega) (knK_of (fun o ho => by show om'.2.2.2.1 b o; rw [eK]; exact ho)) (by show om'.2.2.2.2 b = _; rw [eK])
    refine Or.inr ⟨nn, rfl, n10, fSu_x su' (fun e he => xU_e (by omega)), ?_, ?_, ?_⟩
    · rw [xU_eq]
      unfold fOk
      rw [xU_eq]
      refine ⟨⟨pc, qc, pc, 0, PJ_0 pt, pt, n7, r99, q4, bq, bb, Nat.zero_le _⟩, ⟨n8, fun y hy _ => ?_, ?_, trivial⟩, ⟨fun j hj => ?_, fun j h1 hj => ?_⟩, ⟨GO_up go (Nat.zero_le _), gd, gs, mo⟩, fun d' j1 j hd hj => ?_, ?_⟩
      · obtain ⟨n1, n2, n3, n4, n5⟩ := nms y hy
        refine ⟨n1, n2, ?_, n4, n5⟩
        show om'.2.2.1.1 _ = rUp (fun _ => R0) 0 N y.2.2.2
        rw [rUp_l (go.2 y hy)]
        exact n3
      · obtain ⟨tt, t1, t2, t3, t4, t5, t6, t7, t8⟩ := ths
        refine ⟨tt, t1, t2, t3, t4, ?_, t6, t7, fun z => ?_⟩
        · show om'.2.2.1.1 _ = rUp (fun _ => R0) 0 N 0
          rw [rUp_l (Nat.zero_le _)]
          exact t5
        · show rUp (fun _ => R0) 0 N 0 = _
          rw [rUp_l (Nat.zero_le _)]
          exact t8 z
      · show rUp (fun _ => R0) 0 N j ≠ 0 ∧ rUp (fun _ => R0) 0 N j < N + lvc + 1 ∧ (if N ≤ rUp (fun _ => R0) 0 N j then b else om'.2.2.1.2.2.2.2 (rUp (fun _ => R0) 0 N j)) = b
        have hj : j ≤ lvc := hj
        by_cases c : j ≤ 0
        · rw [rUp_l c]
          have := Elt _ ER
          refine ⟨R1, by omega, ?_⟩
          rw [if_neg (by omega), (st.1 _ ER).2.1]
          exact Ro
        · have := gi.2.2.2.2
          rw [rUp_g (by omega), if_pos (by omega)]
          exact ⟨by omega, by omega, rfl⟩
      · show om'.2.2.1.2.2.2.1 (rUp (fun _ => R0) 0 N j) = 0
        rw [rUp_g (by omega)]
        by_cases z : om'.2.2.1.2.2.2.1 (N + j) = 0
        · exact z
        · have := (gi'.2.1.2.2 _ z).1
          omega
      · rw [xU_eq] at hj ⊢
        have hj : j ≤ lvc := hj
        show (rUp (fun _ => R0) 0 N j ≠ fRe (xU x b nn _ b d') j1 → ¬ inR om'.2.2.1 (rUp (fun _ => R0) 0 N j) (fRe (xU x b nn _ b d') j1)) ∧ (1 ≤ j → rUp (fun _ => R0) 0 N j ≠ fRe (xU x b nn _ b d') j1)
        by_cases c : j ≤ 0
        · rcases hd with z | z
          · rw [xU_e (by omega)] at z ⊢
            rw [rUp_l c]
            exact ⟨fun h1 h2 => top d' j1 z.1 z.2 h1 (((st.1 _ (Es d' j1 z.1 z.2)).2.2.2 _).mp h2), fun z => absurd z (by omega)⟩
          · omega
        · rw [rUp_g (by omega)]
          have ne : N + j ≠ fRe (xU x b nn (m, lvc, Gc, 0, [], rUp (fun _ => R0) 0 N, bs, qs) b d') j1 := by
            rcases hd with z | z
            · rw [xU_e (by omega)] at z ⊢
              have := Elt _ (Es d' j1 z.1 z.2)
              omega
            · rw [z.1, xU_eq]
              show N + j ≠ rUp (fun _ => R0) 0 N j1
              by_cases c2 : j1 ≤ 0
              · rw [rUp_l c2]
                have := Elt _ ER
                omega
              · rw [rUp_g (by omega)]
                omega
          exact ⟨fun _ h2 => ne (in_fs2 gi' (by omega) h2).symm, fun _ => ne⟩
      · rcases lk with ⟨h0, f1, f2, f3, f4⟩ | ⟨d', hd, t, le, S1, l1, l2, l3, l4, l5⟩
        · left
          refine ⟨h0, ?_⟩
          unfold fB0
          subst h0
          rw [xU_eq]
          refine ⟨f1, f2, ?_, f4⟩
          show rUp (fun _ => R0) 0 N 0 = om'.2.2.2.2 b
          rw [rUp_l (Nat.zero_le _), eK]
          exact f3
        · right
          refine ⟨d', hd, ?_⟩
          subst hd
          unfold fLk
          rw [xU_eq, xU_e (by omega)]
          refine ⟨t, le, S1, l1, l2, l3, l4, ?_⟩
          show (_ ∧ _ ∧ (rUp (fun _ => R0) 0 N 0 = _ ∨ _)) ∨ _
          rcases l5 with ⟨m1, m2, m3⟩ | ⟨m1, m2, k, cp, m3, m4, m5, m6, m7, m8⟩
          · left
            rw [rUp_l (Nat.zero_le _)]
            exact ⟨m1, m2, m3⟩
          · right
            refine ⟨m1, m2, k, cp, m3, m4, m5, m6, m7, ?_⟩
            show ((_ ∧ rUp (fun _ => R0) 0 N 0 = _) ∨ (om'.2.2.1.2.2.2.1 (rUp (fun _ => R0) 0 N 0) = 0 ∧ _ ∧ ∀ d'' j : Nat, d'' ≤ d' → j ≤ fL (xU x b (d' + 1) _ b d'') → fRe (xU x b (d' + 1) _ b d'') j ≠ rUp (fun _ => R0) 0 N 0))
            rw [rUp_l (Nat.zero_le _)]
            rcases m8 with m8 | ⟨m8, m9, m10⟩
            · exact Or.inl m8
            · refine Or.inr ⟨m8, m9, fun d'' j h1 h2 => ?_⟩
              rw [xU_e (by omega)] at h2 ⊢
              exact m10 d'' j h1 h2
    · rw [xU_eq]; exact so
    · rw [xU_eq]; exact r93
  · have eD : (fun b_1 => if b_1 = a then nn + 1 else D b_1) b = D b := if_neg c
    rw [xU_b c, eD]
    exact aBd_g (om' := (om'.1, om'.2.1, fsG om'.2.2.1 N a, om'.2.2.2)) gi (bo b hb c) c (by omega) a12 hb cl rf hP ch st2 hEo (by omega) eK
end ENT2
