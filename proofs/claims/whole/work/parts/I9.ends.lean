/-! AN INSTRUCTION: where it stands, how it ends. -/
/-- live regions: a's, up to level J of its last body; all that is others' -/
def eLr (om : oMg) (N a d J : Nat) (xb : Nat → fDs) (y : Nat) : Prop := y = 0 ∨ (y < N ∧ om.2.2.1.2.2.2.2 y ≠ a) ∨ ∃ e j, ((e < d ∧ j ≤ fL (xb e)) ∨ (e = d ∧ j ≤ J)) ∧ y = fRe (xb e) j
section IT0
variable (sB : rS) (A B : Nat → Int32) (mi : Nat → Nat × Nat × Nat × Nat × Nat) (kc : kCi) (om : oMg) (ka : kAp) (la : lAy) (ms : mSg) (N cn : Nat) (sg : cS) (s : rS) (D : Nat → Nat) (x : Nat → Nat → fDs) (a d : Nat)
/-- body d of actor a is about to do an instruction -/
def iTm : Prop := wAl sB kc om ka la ms N cn sg s D ∧ (∀ b, b < ka.2.2.2 → b ≠ a → aBd sB A B mi om ka N sg s b (x b) (D b)) ∧ fSu sB A B mi om ka N sg s a (x a) d ∧ (D a = d + 1 ∧ a < ka.2.2.2 ∧ d < 10) ∧ fVl sB mi om ka sg s a d (x a d) (fSt (x a d)) ∧ fRg om N a (x a d) ∧ fNm sB A B mi (x a d) ∧ fOr om.2.2.1 (x a) d ∧ ((d = 0 ∧ fB0 sB om ka a (x a)) ∨ ∃ d', d = d' + 1 ∧ fLk sB mi om.2.2.1 (x a) d') ∧ SOK sg a (fBs (x a d) + (mi (fMe (x a d))).2.2.2.2 + (fSt (x a d)).length) ∧ s.2.1 93 a = Int32.ofNat (fQ (x a d) + (fSt (x a d)).length) ∧ (fQ (x a d) ≤ 1010 * d ∧ fBs (x a d) ≤ 1026 * d ∧ (fSt (x a d)).length ≤ 1010)
end IT0
section IT1
variable {sB : rS} {A B : Nat → Int32} {mi : Nat → Nat × Nat × Nat × Nat × Nat} {kc : kCi} {om om' : oMg} {ka ka' : kAp} {la : lAy} {ms : mSg} {N N' cn : Nat} {sg sg' sg2 : cS} {s s' s2 : rS} {a b d e lo q0 J : Nat} {E P : Nat → Prop} {x : Nat → Nat → fDs} {xb xc : Nat → fDs} {D : Nat → Nat} {S S0 : List stE} {v : Int64}
theorem eL_lt (it : iTm sB A B mi kc om ka la ms N cn sg s D x a d) (hJ : J ≤ fL (x a d)) {y : Nat} (h : eLr om N a d J (x a) y) : y < N := by
  obtain ⟨w, _, su, _, _, rg, _⟩ := it
  rcases h with h | h | ⟨e, j, h1, h2⟩
  · rw [h]; exact w.2.1.2.2.2.2
  · exact h.1
  · rw [h2]
    rcases h1 with z | z
    · obtain ⟨S0, t, _, k⟩ := su e z.1
      exact (k.2.2.1.1 j z.2).2.1
    · rw [z.1]; exact (rg.1 j (by omega)).2.1
theorem eL_m (it : iTm sB A B mi kc om ka la ms N cn sg s D x a d) : eLr om N a d J (x a) (om.2.2.2.2 a) := by
  obtain ⟨w, _, su, _, _, rg, _, _, lk, _⟩ := it
  by_cases c : d = 0
  · rcases lk with ⟨_, _, _, z, _⟩ | ⟨d', z, _⟩
    · exact Or.inr (Or.inr ⟨0, 0, Or.inr ⟨c.symm, Nat.zero_le _⟩, z.symm⟩)
    · omega
  · obtain ⟨S0, t, _, k⟩ := su 0 (by omega)
    rcases k.2.2.2.2.2 with ⟨_, _, _, z, _⟩ | ⟨d', z, _⟩
    · exact Or.inr (Or.inr ⟨0, 0, Or.inl ⟨by omega, Nat.zero_le _⟩, z.symm⟩)
    · omega
/-- no live region lies in one that is entered from a level of the last body -/
theorem eL_no (it : iTm sB A B mi kc om ka la ms N cn sg s D x a d) {T0 j0 : Nat} (hj : j0 ≤ fL (x a d)) (hk : om.2.2.1.2.2.2.1 T0 ≠ 0) (hp : om.2.2.1.2.2.1 T0 = fRe (x a d) j0) {y : Nat} (h : eLr om N a d (fL (x a d)) (x a) y) : ¬ inR om.2.2.1 T0 y := by
  obtain ⟨w, _, su, _, _, rg, _, od, _⟩ := it
  have hI := w.2.1.1
  intro hin
  have hup : inR om.2.2.1 (fRe (x a d) j0) y := by
    have := inR_up hk
    rw [hp] at this
    exact inR_t this hin
  have nab := rg_not_above hI hk
  rw [hp] at nab
  rcases h with h | h | ⟨e, j, h1, h2⟩
  · rw [h] at hin
    have z := inR_0 hI hin
    obtain ⟨_, _, ⟨_, hg⟩, _⟩ := hI
    exact (hg T0 hk).1 z
  · have := inR_ow hI hup
    rw [(rg.1 j0 hj).2.2] at this
    exact h.2 this
  · by_cases c : y = fRe (x a d) j0
    · rw [c] at hin; exact nab hin
    · have c' : fRe (x a d) j0 ≠ fRe (x a e) j := fun z => c (h2.trans z.symm)
      rw [h2] at hup hin
      rcases h1 with z | z
      · exact (od e j j0 (Or.inl z) hj).1 c' hup
      · obtain ⟨z1, z2⟩ := z
        subst z1
        by_cases c2 : j < j0
        · exact (od e j j0 (Or.inr ⟨rfl, c2⟩) hj).1 c' hup
        · have hlt : j0 < j := by
            rcases Nat.lt_or_ge j0 j with z | z
            · exact z
            · have : j = j0 := by omega
              rw [this] at c'
              exact absurd rfl c'
          have tk0 := rg.2 j (by omega) z2
          obtain ⟨n, hn⟩ := hin
          cases n with
          | zero =>
            have hn : fRe (x a e) j = T0 := hn
            rw [hn] at tk0
            exact hk tk0
          | succ n => exact hn.1 tk0
/-- levels that are fresh -/
def rUp (R : Nat → Nat) (J N : Nat) : Nat → Nat := fun j => if j ≤ J then R j else N + j
theorem rUp_l {R : Nat → Nat} {j : Nat} (h : j ≤ J) : rUp R J N j = R j := if_pos h
theorem rUp_g {R : Nat → Nat} {j : Nat} (h : J < j) : rUp R J N j = N + j := if_neg (by omega)
theorem sEe_fs {t r u : Nat} (h : sEe om b t r u) : sEe (om.1, om.2.1, fsG om.2.2.1 N a, om.2.2.2) b t r u := h
theorem pEn_R {bl : Nat} {R R' : Nat → Nat} {y : stE} {j : Nat} (h : pEn om ka sg s a bl q0 R y j) (e : R' y.2.2 = R y.2.2) : pEn (om.1, om.2.1, fsG om.2.2.1 N b, om.2.2.2) ka sg s a bl q0 R' y j := by
  unfold pEn at h ⊢
  rw [e]
  exact h
/-- THE END of an instruction that goes on in its body: all levels above J are fresh -/
theorem eNd2 {lv' p' q' b' j' : Nat} {G' : List scN} {gn' : Int32} {S' : List stE} (it : iTm sB A B mi kc om ka la ms N cn sg s D x a d) (hJ : J ≤ fL (x a d)) (cl : kCl a d (fBs (x a d)) sg sg') (rf : kRf a d (fQ (x a d)) s s') (ch : ∀ l, ¬ cHg a d (fQ (x a d)) l → om'.1 l = om.1 l ∧ om'.2.1 l = om.2.1 l) (st : rSt a a (eLr om N a d J (x a)) (cHg a d (fQ (x a d))) om.2.2.1 om'.2.2.1) (gi' : GI ka.2.2.1 N om'.1 om'.2.1 om'.2.2.1) (eK : om'.2.2.2 = om.2.2.2)
    (pj : PJ A B j' b' p') (pt : PT sB A B (fMe (x a d)) (mi (fMe (x a d))).1 (mi (fMe (x a d))).2.1 (mi (fMe (x a d))).2.2.1 p' q' lv' G' gn' S') (n7 : sg'.2.2.2.1 a 7 d = Int32.ofNat b') (r99 : s'.2.1 99 (10 * a + d) = Int32.ofNat q') (q4 : q' < 4400) (len : S'.length ≤ 1010) (hl : J ≤ lv')
    (go : GO sB (mi (fMe (x a d))).2.1 (mi (fMe (x a d))).2.2.1 (mi (fMe (x a d))).2.2.2.1 J G') (gd : gDs G') (gs : ∀ y ∈ G', y.2.1 < (mi (fMe (x a d))).2.2.2.2 ∧ dTy y.2.2.1 = true)
    (nms : ∀ y ∈ G', gn' &&& bt y.2.1 = 0 → nAm om' ka sg' s' a (10 * a + d) (fBs (x a d)) (fRe (x a d)) y) (ths : tHs sB om' ka sg' s' a d (fMe (x a d)) (fRe (x a d))) (svl : sVl (pEn om' ka sg' s' a (fBs (x a d) + (mi (fMe (x a d))).2.2.2.2) (fQ (x a d)) (fRe (x a d))) S') (slv : ∀ y ∈ S', y.2.2 ≤ J)
    (so : SOK sg' a (fBs (x a d) + (mi (fMe (x a d))).2.2.2.2 + S'.length)) (r93 : s'.2.1 93 a = Int32.ofNat (fQ (x a d) + S'.length)) :
    rUn sB A B mi kc (om'.1, om'.2.1, fsG om'.2.2.1 N a, om'.2.2.2) ka la ms (N + lv' + 1) cn sg' s' D (xU x a d (fMe (x a d), lv', G', gn', S', rUp (fRe (x a d)) J N, fBs (x a d), fQ (x a d))) := by
  have it0 := it
  obtain ⟨w, bo, su, ⟨hD, ac, d10⟩, vl, rg, nm, od, lk, _, _, b1, b2, b3⟩ := it0
  have lt := fun y (h : eLr om N a d J (x a) y) => eL_lt it hJ h
  have E0 : eLr om N a d J (x a) 0 := Or.inl rfl
  have st2 : rSt a a (eLr om N a d J (x a)) (cHg a d (fQ (x a d))) om.2.2.1 (fsG om'.2.2.1 N a) := rSt_u E0 st (fsG_st gi' lt)
  have El : ∀ j, j ≤ J → eLr om N a d J (x a) (fRe (x a d) j) := fun j hj => Or.inr (Or.inr ⟨d, j, Or.inr ⟨rfl, hj⟩, rfl⟩)
  have Es : ∀ e j, e < d → j ≤ fL (x a e) → eLr om N a d J (x a) (fRe (x a e) j) := fun e j h1 h2 => Or.inr (Or.inr ⟨e, j, Or.inl ⟨h1, h2⟩, rfl⟩)
  have gi2 : GI ka.2.2.1 (N + lv' + 1) om'.1 om'.2.1 (fsG om'.2.2.1 N a) := GI_fs gi' (by omega)
  have lay : d = 0 ∨ ∃ d', d = d' + 1 ∧ fLk sB mi om.2.2.1 (x a) d' := by
    rcases lk with z | z
    · exact Or.inl z.1
    · exact Or.inr z
  refine eNd w bo su hD ac d10 lay cl rf ch st2 (fun y hy => ?_) Es (eL_m it) gi2 (by omega) eK ?_ so r93
  · rcases hy with z | z
    · exact Or.inl z
    · exact Or.inr (Or.inl z)
  · unfold fOk
    rw [xU_eq]
    refine ⟨⟨p', q', b', j', pj, pt, n7, r99, q4, b1, b2, len⟩, ⟨?_, fun y hy gy => ?_, ?_, ?_⟩, ⟨fun j hj => ?_, fun j h1 hj => ?_⟩, ⟨GO_up go hl, gd, gs, nm.2.2.2⟩, fun d' j1 j hd hj => ?_, ?_⟩
    · rw [cl.2.2.2.1 a 8 (Or.inr (by decide))]; exact vl.1
    · obtain ⟨n1, n2, n3, n4, n5⟩ := nms y hy gy
      refine ⟨n1, n2, ?_, n4, n5⟩
      show om'.2.2.1.1 _ = rUp (fRe (x a d)) J N y.2.2.2
      rw [rUp_l (go.2 y hy)]
      exact n3
    · obtain ⟨tt, t1, t2, t3, t4, t5, t6, t7, t8⟩ := ths
      refine ⟨tt, t1, t2, t3, t4, ?_, t6, t7, fun z => ?_⟩
      · show om'.2.2.1.1 _ = rUp (fRe (x a d)) J N 0
        rw [rUp_l (Nat.zero_le _)]
        exact t5
      · show rUp (fRe (x a d)) J N 0 = _
        rw [rUp_l (Nat.zero_le _)]
        exact t8 z
    · exact sVl_m S' svl (fun y j hy _ h => pEn_R h (rUp_l (slv y hy)))
    · show rUp (fRe (x a d)) J N j ≠ 0 ∧ rUp (fRe (x a d)) J N j < N + lv' + 1 ∧ (if N ≤ rUp (fRe (x a d)) J N j then a else om'.2.2.1.2.2.2.2 (rUp (fRe (x a d)) J N j)) = a
      have hj : j ≤ lv' := hj
      by_cases c : j ≤ J
      · rw [rUp_l c]
        obtain ⟨r1, r2, r3⟩ := rg.1 j (by omega)
        refine ⟨r1, by omega, ?_⟩
        rw [if_neg (by omega), (st.1 _ (El j c)).2.1]
        exact r3
      · have := w.2.1.2.2.2.2
        rw [rUp_g (by omega), if_pos (by omega)]
        exact ⟨by omega, by omega, rfl⟩
    · show om'.2.2.1.2.2.2.1 (rUp (fRe (x a d)) J N j) = 0
      by_cases c : j ≤ J
      · rw [rUp_l c, (st.1 _ (El j c)).1]
        exact rg.2 j h1 (by omega)
      · rw [rUp_g (by omega)]
        by_cases z : om'.2.2.1.2.2.2.1 (N + j) = 0
        · exact z
        · have := (gi'.2.1.2.2 _ z).1
          omega
    · rw [xU_eq] at hj ⊢
      have hj : j ≤ lv' := hj
      show (rUp (fRe (x a d)) J N j ≠ fRe (xU x a d _ a d') j1 → ¬ inR om'.2.2.1 (rUp (fRe (x a d)) J N j) (fRe (xU x a d _ a d') j1)) ∧ (1 ≤ j → rUp (fRe (x a d)) J N j ≠ fRe (xU x a d _ a d') j1)
      by_cases c : j ≤ J
      · -- an old level
        have old : fRe (xU x a d (fMe (x a d), lv', G', gn', S', rUp (fRe (x a d)) J N, fBs (x a d), fQ (x a d)) a d') j1 = fRe (x a d') j1 ∧ ((d' < d ∧ j1 ≤ fL (x a d')) ∨ (d' = d ∧ j1 < j)) := by
          rcases hd with z | z
          · rw [xU_e (by omega)] at z ⊢
            exact ⟨rfl, Or.inl z⟩
          · rw [z.1, xU_eq]
            exact ⟨rUp_l (by omega), Or.inr ⟨rfl, z.2⟩⟩
        rw [old.1, rUp_l c]
        obtain ⟨o1, o2⟩ := od d' j1 j old.2 (by omega)
        refine ⟨fun h1 h2 => o1 h1 ?_, o2⟩
        have Ed : eLr om N a d J (x a) (fRe (x a d') j1) := by
          rcases old.2 with z | z
          · exact Es d' j1 z.1 z.2
          · rw [z.1]; exact El j1 (by omega)
        exact ((st.1 _ Ed).2.2.2 _).mp h2
      · rw [rUp_g (by omega)]
        have ne : N + j ≠ fRe (xU x a d (fMe (x a d), lv', G', gn', S', rUp (fRe (x a d)) J N, fBs (x a d), fQ (x a d)) a d') j1 := by
          rcases hd with z | z
          · rw [xU_e (by omega)] at z ⊢
            have := lt _ (Es d' j1 z.1 z.2)
            omega
          · rw [z.1, xU_eq]
            show N + j ≠ rUp (fRe (x a d)) J N j1
            by_cases c2 : j1 ≤ J
            · rw [rUp_l c2]
              have := lt _ (El j1 c2)
              omega
            · rw [rUp_g (by omega)]
              omega
        exact ⟨fun _ h2 => ne (in_fs2 gi' (by omega) h2).symm, fun _ => ne⟩
    · rcases lk with ⟨h0, f1, f2, f3, f4⟩ | ⟨d', hd, lk⟩
      · left
        refine ⟨h0, ?_⟩
        unfold fB0
        subst h0
        rw [xU_eq]
        refine ⟨f1, f2, ?_, f4⟩
        show rUp (fRe (x a 0)) J N 0 = om'.2.2.2.2 a
        rw [rUp_l (Nat.zero_le _), eK]
        exact f3
      · right
        refine ⟨d', hd, ?_⟩
        subst hd
        unfold fLk
        rw [xU_eq, xU_e (by omega)]
        obtain ⟨t, le, S1, l1, l2, l3, l4, l5⟩ := lk
        refine ⟨t, le, S1, l1, l2, l3, l4, ?_⟩
        show (_ ∧ _ ∧ (rUp (fRe (x a (d' + 1))) J N 0 = _ ∨ _)) ∨ _
        rcases l5 with ⟨m1, m2, m3⟩ | ⟨m1, m2, k, cp, m3, m4, m5, m6, m7, m8⟩
        · left
          rw [rUp_l (Nat.zero_le _)]
          exact ⟨m1, m2, m3⟩
        · right
          refine ⟨m1, m2, k, cp, m3, m4, m5, m6, m7, ?_⟩
          show ((_ ∧ rUp (fRe (x a (d' + 1))) J N 0 = _) ∨ (om'.2.2.1.2.2.2.1 (rUp (fRe (x a (d' + 1))) J N 0) = 0 ∧ _ ∧ ∀ d'' j : Nat, d'' ≤ d' → j ≤ fL (xU x a (d' + 1) _ a d'') → fRe (xU x a (d' + 1) _ a d'') j ≠ rUp (fRe (x a (d' + 1))) J N 0))
          rw [rUp_l (Nat.zero_le _)]
          rcases m8 with m8 | ⟨m8, m9, m10⟩
          · exact Or.inl m8
          · refine Or.inr ⟨?_, m9, fun d'' j h1 h2 => ?_⟩
            · rw [(st.1 _ (El 0 (Nat.zero_le _))).1]; exact m8
            · rw [xU_e (by omega)] at h2 ⊢
              exact m10 d'' j h1 h2
end IT1
