/-! THE CLASS DOES AN INSTRUCTION: what is told, fields, calls. -/
section EX3
variable {L : Nat} {xs : Nat → Int32} {zf : Value} {w k : Nat} {n : Nat} {sg : cS} {Z : Nat → Prop} {hB h : rm_H} {a b i ht P sz bs sl tn f st : Nat} {A B : Nat → Int32} {es : List Nat} {v : Int32}
theorem k_told (q : RH (.ref P) n sg Z hB h) (ha : a < n) (so : SOK sg a (ht + 1)) (h12 : sg.1 12 = Int32.ofNat tn) (tb : tn ≤ 1000000) : ∃ h' : rm_H, dM L xs zf w (k + 2) 257 [.ref 24, .ref (sg.2.2.2.2 a 0)] h = some (none, h') ∧ RH (.ref P) n (sXc (if tn < 200 then sW (sW (sQ sg a (sg.2.2.2.2 a 12) (sg.2.2.2.2 a 13) (sg.2.2.2.1 a 12) ht) 3 tn (sg.2.2.2.1 a 12 ht)) 4 tn (sg.2.2.1 a 0) else sQ sg a (sg.2.2.2.2 a 12) (sg.2.2.2.2 a 13) (sg.2.2.2.1 a 12) ht) 12 (Int32.ofNat (tn + 1))) Z hB h' ∧ h'.length = h.length ∧ zh h' = zh h := by
  obtain ⟨h1, p1, p2, p3, p4⟩ := k_pop0 (L := L) (xs := xs) (zf := zf) (w := w) (k := k) q ha so
  have e0 : (sQ sg a (sg.2.2.2.2 a 12) (sg.2.2.2.2 a 13) (sg.2.2.2.1 a 12) ht).2.2.2.2 a 0 = sg.2.2.2.2 a 0 := sQ_P (Or.inl (by decide))
  have go : ∀ (sg1 : cS) (h2 : rm_H), RH (.ref P) n sg1 Z hB h2 → sg1.1 12 = Int32.ofNat tn → ∃ h', b257_38 L xs zf (dM L xs zf w (k + 1)) w (some 24) h2 = some (none, h') ∧ RH (.ref P) n (sXc sg1 12 (Int32.ofNat (tn + 1))) Z hB h' ∧ h'.length = h2.length ∧ zh h' = zh h2 := by
    intro sg1 h2 q2 e12
    obtain ⟨h3, w1, w2, w3⟩ := pX (j := 12) (v := Int32.ofNat (tn + 1)) q2 (by decide)
    refine ⟨h3, ?_, w2, w3.2.1, w3.2.2⟩
    unfold b257_38
    refine bse ((gX (L := L) (xs := xs) q2 (j := 12) (by decide)).trans (congrArg some e12)) ?_
    rw [of_inc]
    exact bse w1 rfl
  have g12 := (gX (L := L) (xs := xs) p2 (j := 12) (by decide)).trans (congrArg some (show (sQ sg a (sg.2.2.2.2 a 12) (sg.2.2.2.2 a 13) (sg.2.2.2.1 a 12) ht).1 12 = Int32.ofNat tn from h12))
  by_cases c : tn < 200
  · obtain ⟨h2, u1, u2, u3⟩ := wI_at (i := tn) (v := sg.2.2.2.1 a 12 ht) (RH_wd (x := 4) p2 (by decide)) c (by decide)
    have q2 := RH_W p2 (Or.inr (Or.inr (Or.inl ⟨rfl, rfl, rfl⟩))) u2 u3
    obtain ⟨h3, y1, y2, y3⟩ := wI_at (i := tn) (v := sg.2.2.1 a 0) (RH_wd (x := 5) q2 (by decide)) c (by decide)
    have q3 := RH_W q2 (Or.inr (Or.inr (Or.inr ⟨rfl, rfl, rfl⟩))) y2 y3
    obtain ⟨h', r1, r2, r3, r4⟩ := go _ h3 q3 h12
    refine ⟨h', ?_, by rw [if_pos c]; exact r2, by rw [r3, y3.2.1, u3.2.1, p3], by rw [r4, y3.2.2, u3.2.2, p4]⟩
    rw [e257]
    show b257_0 L xs zf (dM L xs zf w (k + 1)) w (some 24) (some (sg.2.2.2.2 a 0)) h = _
    unfold b257_0
    refine bse p1 (bse g12 ?_)
    refine ifn (by rw [f2_ge, of_int (by omega), show (200 : Int32).toInt = 200 from by decide]; exact fun z => absurd (of_decide_eq_true z) (by omega)) ?_
    refine bse (gXr (L := L) (xs := xs) p2 (j := 3) (by decide)) (bse g12 (bse u1 ?_))
    refine bse (gXr (L := L) (xs := xs) q2 (j := 4) (by decide)) ?_
    refine bse ((gX (L := L) (xs := xs) q2 (j := 12) (by decide)).trans (congrArg some h12)) ?_
    have g0 := gA (L := L) (xs := xs) q2 ha (j := 0) (by omega)
    rw [show (sW (sQ sg a (sg.2.2.2.2 a 12) (sg.2.2.2.2 a 13) (sg.2.2.2.1 a 12) ht) 3 tn (sg.2.2.2.1 a 12 ht)).2.2.2.2 a 0 = sg.2.2.2.2 a 0 from e0, show (sW (sQ sg a (sg.2.2.2.2 a 12) (sg.2.2.2.2 a 13) (sg.2.2.2.1 a 12) ht) 3 tn (sg.2.2.2.1 a 12 ht)).2.2.1 a 0 = sg.2.2.1 a 0 from sQ_A (Or.inl (by decide))] at g0
    exact bse g0 (bse y1 r1)
  · obtain ⟨h', r1, r2, r3, r4⟩ := go _ h1 p2 h12
    refine ⟨h', ?_, by rw [if_neg c]; exact r2, r3.trans p3, r4.trans p4⟩
    rw [e257]
    show b257_0 L xs zf (dM L xs zf w (k + 1)) w (some 24) (some (sg.2.2.2.2 a 0)) h = _
    unfold b257_0
    refine bse p1 (bse g12 ?_)
    exact ift (by rw [f2_ge, of_int (by omega), show (200 : Int32).toInt = 200 from by decide]; exact decide_eq_true (by omega)) r1
theorem fop (f : Nat) (h : f < 8) : (Int32.ofNat f * 2 + 0 : Int32) &&& 1 = 0 ∧ (Int32.ofNat f * 2 + 0 : Int32) >>> ((1 : Int32) &&& 31) = Int32.ofNat f ∧ (Int32.ofNat f * 2 + 1 : Int32) &&& 1 = 1 ∧ (Int32.ofNat f * 2 + 1 : Int32) >>> ((1 : Int32) &&& 31) = Int32.ofNat f := by
  have t : ∀ f, f < 8 → (Int32.ofNat f * 2 + 0 : Int32) &&& 1 = 0 ∧ (Int32.ofNat f * 2 + 0 : Int32) >>> ((1 : Int32) &&& 31) = Int32.ofNat f ∧ (Int32.ofNat f * 2 + 1 : Int32) &&& 1 = 1 ∧ (Int32.ofNat f * 2 + 1 : Int32) >>> ((1 : Int32) &&& 31) = Int32.ofNat f := by decide +kernel
  exact t f h
theorem k_266 {o : Nat} (q : RH (.ref P) n sg Z hB h) (ho : o ≤ 400) (hs : sg.2.1 1 o = Int32.ofNat st) : dM L xs zf w (k + 1) 266 [.ref 24, .int (Int32.ofNat o)] h = some (some (.int (Int32.ofNat (st + 1))), h) := by
  rw [e266]
  show b266_0 L xs zf (dM L xs zf w k) w (some 24) (Int32.ofNat o) h = _
  unfold b266_0
  refine ifn (by rw [f1_lt, of_int (by omega)]; exact fun z => absurd (of_decide_eq_true z) (by omega)) ?_
  refine bse (gXr (L := L) (xs := xs) q (j := 1) (by decide)) ?_
  refine bse (hc_aN (RH_wd (x := 2) q (by decide)) (by decide)) ?_
  refine ift (by rw [f2_lt, of_int (by omega), of_int (by omega)]; exact decide_eq_true (by omega)) ?_
  refine bse (gXr (L := L) (xs := xs) q (j := 1) (by decide)) ?_
  refine bse ((rI_at (RH_wd (x := 2) q (by decide)) (by omega) (by decide)).trans (congrArg some hs)) ?_
  rw [of_inc]
  rfl
/-- the field is read -/
theorem k_52r (q : RH (.ref P) n sg Z hB h) (ha : a < n) (so : SOK sg a ht) (y : Int32) (hy : y >>> ((1 : Int32) &&& 31) = Int32.ofNat f) (hf : st + f < 400) : ∃ (h' : rm_H) (z c : Nat) (g : Nat → Int32), b265_52 L xs zf (dM L xs zf w (k + 3)) w (some 24) (some (sg.2.2.2.2 a 0)) 3 y (Int32.ofNat st) h = some (none, h') ∧ RH (.ref P) n (sQ sg a z c g (ht + 1)) Z hB h' ∧ STN sg a ht z c g (ht + 1) ∧ g ht = sg.2.1 0 (st + f) ∧ CST n sg h (sQ sg a z c g (ht + 1)) h' := by
  obtain ⟨h', z, c, g, r1, r2, r3, r4, r5⟩ := k_push0 (L := L) (xs := xs) (zf := zf) (w := w) (k := k) (v := sg.2.1 0 (st + f)) q ha so
  refine ⟨h', z, c, g, ?_, r2, r3, r4, r5⟩
  unfold b265_52
  rw [hy, of_add]
  refine ifn (by rw [f1_lt, of_int (by omega)]; exact fun z => absurd (of_decide_eq_true z) (by omega)) ?_
  refine bse (gXr (L := L) (xs := xs) q (j := 0) (by decide)) ?_
  refine bse (hc_aN (RH_wd (x := 1) q (by decide)) (by decide)) ?_
  refine ift (by rw [f2_lt, of_int (by omega), of_int (by omega)]; exact decide_eq_true (by omega)) ?_
  refine ifn (by decide) ?_
  refine bse (gXr (L := L) (xs := xs) q (j := 0) (by decide)) ?_
  refine bse (rI_at (RH_wd (x := 1) q (by decide)) hf (by decide)) ?_
  exact bse r1 rfl
/-- the field is set -/
theorem k_52s (q : RH (.ref P) n sg Z hB h) (ha : a < n) (so : SOK sg a (ht + 1)) (y : Int32) (hy : y >>> ((1 : Int32) &&& 31) = Int32.ofNat f) (hf : st + f < 400) : ∃ h' : rm_H, b265_52 L xs zf (dM L xs zf w (k + 3)) w (some 24) (some (sg.2.2.2.2 a 0)) 12 y (Int32.ofNat st) h = some (none, h') ∧ RH (.ref P) n (sW (sQ sg a (sg.2.2.2.2 a 12) (sg.2.2.2.2 a 13) (sg.2.2.2.1 a 12) ht) 0 (st + f) (sg.2.2.2.1 a 12 ht)) Z hB h' ∧ h'.length = h.length ∧ zh h' = zh h := by
  obtain ⟨h1, p1, p2, p3, p4⟩ := k_pop0 (L := L) (xs := xs) (zf := zf) (w := w) (k := k + 2) q ha so
  obtain ⟨h2, u1, u2, u3⟩ := wI_at (i := st + f) (v := sg.2.2.2.1 a 12 ht) (RH_wd (x := 1) p2 (by decide)) hf (by decide)
  have q2 := RH_W p2 (Or.inl ⟨rfl, rfl, rfl⟩) u2 u3
  refine ⟨h2, ?_, q2, u3.2.1.trans p3, u3.2.2.trans p4⟩
  unfold b265_52
  rw [hy, of_add]
  refine ifn (by rw [f1_lt, of_int (by omega)]; exact fun z => absurd (of_decide_eq_true z) (by omega)) ?_
  refine bse (gXr (L := L) (xs := xs) q (j := 0) (by decide)) ?_
  refine bse (hc_aN (RH_wd (x := 1) q (by decide)) (by decide)) ?_
  refine ift (by rw [f2_lt, of_int (by omega), of_int (by omega)]; exact decide_eq_true (by omega)) ?_
  refine ift (by decide) ?_
  refine bse (gXr (L := L) (xs := xs) q (j := 0) (by decide)) ?_
  refine bse (rI_at (RH_wd (x := 1) q (by decide)) hf (by decide)) ?_
  refine bse (gXr (L := L) (xs := xs) q (j := 0) (by decide)) ?_
  refine bse p1 (bse u1 ?_)
  exact ift (by decide) rfl
/-- the field is swapped -/
theorem k_52w (q : RH (.ref P) n sg Z hB h) (ha : a < n) (so : SOK sg a (ht + 1)) (y : Int32) (hy : y >>> ((1 : Int32) &&& 31) = Int32.ofNat f) (hf : st + f < 400) : ∃ (h' : rm_H) (z c : Nat) (g : Nat → Int32), b265_52 L xs zf (dM L xs zf w (k + 3)) w (some 24) (some (sg.2.2.2.2 a 0)) 10 y (Int32.ofNat st) h = some (none, h') ∧ RH (.ref P) n (sQ (sW sg 0 (st + f) (sg.2.2.2.1 a 12 ht)) a z c g (ht + 1)) Z hB h' ∧ STN sg a ht z c g (ht + 1) ∧ g ht = sg.2.1 0 (st + f) ∧ CST n sg h (sQ (sW sg 0 (st + f) (sg.2.2.2.1 a 12 ht)) a z c g (ht + 1)) h' := by
  obtain ⟨h1, p1, p2, p3, p4⟩ := k_pop0 (L := L) (xs := xs) (zf := zf) (w := w) (k := k + 2) q ha so
  obtain ⟨s1, s2, s3, s4⟩ := so
  obtain ⟨h2, u1, u2, u3⟩ := wI_at (i := st + f) (v := sg.2.2.2.1 a 12 ht) (RH_wd (x := 1) p2 (by decide)) hf (by decide)
  have q2 := RH_W p2 (Or.inl ⟨rfl, rfl, rfl⟩) u2 u3
  obtain ⟨h', z, c, g, r1, r2, r3, r4, r5⟩ := k_push0 (L := L) (xs := xs) (zf := zf) (w := w) (k := k) (v := sg.2.1 0 (st + f)) q2 ha (show SOK (sQ sg a (sg.2.2.2.2 a 12) (sg.2.2.2.2 a 13) (sg.2.2.2.1 a 12) ht) a ht from SOK_q (by omega) s3 s4)
  rw [show (sW (sQ sg a (sg.2.2.2.2 a 12) (sg.2.2.2.2 a 13) (sg.2.2.2.1 a 12) ht) 0 (st + f) (sg.2.2.2.1 a 12 ht)).2.2.2.2 a 0 = sg.2.2.2.2 a 0 from (show (sQ sg a (sg.2.2.2.2 a 12) (sg.2.2.2.2 a 13) (sg.2.2.2.1 a 12) ht).2.2.2.2 a 0 = _ from sQ_P (Or.inl (by decide)))] at r1
  rw [show sW (sQ sg a (sg.2.2.2.2 a 12) (sg.2.2.2.2 a 13) (sg.2.2.2.1 a 12) ht) 0 (st + f) (sg.2.2.2.1 a 12 ht) = sQ (sW sg 0 (st + f) (sg.2.2.2.1 a 12 ht)) a (sg.2.2.2.2 a 12) (sg.2.2.2.2 a 13) (sg.2.2.2.1 a 12) ht from rfl] at r2 r3 r5
  rw [sQ_sQ] at r2 r5
  obtain ⟨y1, y2, y3, y4⟩ := r3
  rw [sQ_c] at y4
  refine ⟨h', z, c, g, ?_, r2, ⟨fun i hi => by rw [y1 i hi, sQ_f], y2, y3, y4⟩, r4, ?_⟩
  · unfold b265_52
    rw [hy, of_add]
    refine ifn (by rw [f1_lt, of_int (by omega)]; exact fun z => absurd (of_decide_eq_true z) (by omega)) ?_
    refine bse (gXr (L := L) (xs := xs) q (j := 0) (by decide)) ?_
    refine bse (hc_aN (RH_wd (x := 1) q (by decide)) (by decide)) ?_
    refine ift (by rw [f2_lt, of_int (by omega), of_int (by omega)]; exact decide_eq_true (by omega)) ?_
    refine ift (by decide) ?_
    refine bse (gXr (L := L) (xs := xs) q (j := 0) (by decide)) ?_
    refine bse (rI_at (RH_wd (x := 1) q (by decide)) hf (by decide)) ?_
    refine bse (gXr (L := L) (xs := xs) q (j := 0) (by decide)) ?_
    refine bse p1 (bse u1 ?_)
    refine ifn (by decide) ?_
    exact bse r1 rfl
  · refine CST_t (sg' := sQ (sW sg 0 (st + f) (sg.2.2.2.1 a 12 ht)) a (sg.2.2.2.2 a 12) (sg.2.2.2.2 a 13) (sg.2.2.2.1 a 12) ht) (CST_0 (fun b => ?_) (u3.2.1.trans p3) (u3.2.2.trans p4)) r5
    by_cases e : b = a
    · rw [e, sQ_c]
    · exact sQ_P (Or.inr e)
end EX3
