/-! A MESSAGE GOES: what both found, put together. -/
theorem fr_sur : ∀ (n w : Nat) (f : Nat → Nat), (∀ j, j < n → ∃ k, k < w ∧ f k = j) → n ≤ w
  | 0, _, _, _ => Nat.zero_le _
  | n + 1, w, f, h => by
    obtain ⟨k0, h1, h2⟩ := h n (Nat.lt_succ_self n)
    have := fr_sur n (w - 1) (fun k => if k = k0 then f (w - 1) else f k) (fun j hj => by
      obtain ⟨k, g1, g2⟩ := h j (by omega)
      have hk : k ≠ k0 := fun z => by rw [z, h2] at g2; omega
      by_cases e : k = w - 1
      · refine ⟨k0, by omega, ?_⟩
        show (if k0 = k0 then f (w - 1) else f k0) = j
        rw [if_pos rfl, ← e]
        exact g2
      · refine ⟨k, by omega, ?_⟩
        show (if k = k0 then f (w - 1) else f k) = j
        rw [if_neg hk]
        exact g2)
    omega
/-- every Kind of objects, as the reference has its fields -/
def kFr (sB : rS) (kc : kCi) : Prop := ∀ k, k < 8 → (kc k).1 ≤ 8 → sB.2.1 66 k = 0 → ∃ em, KFR sB k (kc k).1 em
section JSM
variable {sB : rS} {A B : Nat → Int32} {mi : Nat → Nat × Nat × Nat × Nat × Nat} {kc : kCi} {om om' : oMg} {ka ka' : kAp} {la : lAy} {ms : mSg} {N N' cn : Nat} {sg sg' sg2 : cS} {s s' s2 S1 : rS} {a b d e lo q0 J l t r i n p q k k2 f0 w P L sz lv : Nat} {xs : Nat → Int32} {zf : Value} {Z : Nat → Prop} {hB h h' : rm_H} {es : List Nat} {x : Nat → Nat → fDs} {D : Nat → Nat} {S S0 X : List stE} {v : Int64} {y : Int32}
variable {E Pq Kp : Nat → Prop} {om1 : oMg} {m j s0 wt a1 : Nat} {ts ps : List Nat} {br wk : Nat → Int32} {bt ag : Nat → Int64}
/-- the first slot that is free -/
theorem free_j (hm : wMs sB kc om ka la ms N sg s b) (w6 : ms.1 b < 6) : ∃ j, j < 6 ∧ s.2.1 104 (6 * b + j) = 0 ∧ (∀ i, i < j → s.2.1 104 (6 * b + i) = 1) ∧ ∀ k, k < ms.1 b → ms.2.2.1 b k ≠ j := by
  obtain ⟨_, _, m6, m7, m8⟩ := hm
  have alt : ∀ i, i < 6 → s.2.1 104 (6 * b + i) = 1 ∨ (s.2.1 104 (6 * b + i) = 0 ∧ ∀ k, k < ms.1 b → ms.2.2.1 b k ≠ i) := by
    intro i hi
    by_cases c : ∃ k, k < ms.1 b ∧ ms.2.2.1 b k = i
    · obtain ⟨k, h1, h2⟩ := c
      left
      obtain ⟨_, _, p3, _⟩ := m6 k h1
      rw [h2] at p3
      exact p3
    · right
      have : ∀ k, k < ms.1 b → ms.2.2.1 b k ≠ i := fun k hk z => c ⟨k, hk, z⟩
      exact ⟨m8 i hi this, this⟩
  have ex : ∃ i, i < 6 ∧ ∀ k, k < ms.1 b → ms.2.2.1 b k ≠ i := by
    refine Classical.byContradiction (fun z => ?_)
    have := fr_sur 6 (ms.1 b) (ms.2.2.1 b) (fun i hi => Classical.byContradiction (fun y => z ⟨i, hi, fun k hk e => y ⟨k, hk, e⟩⟩))
    omega
  obtain ⟨i0, h1, h2⟩ := ex
  have key : ∀ n, n ≤ i0 → (∃ j, j < n ∧ s.2.1 104 (6 * b + j) = 0 ∧ (∀ i, i < j → s.2.1 104 (6 * b + i) = 1) ∧ ∀ k, k < ms.1 b → ms.2.2.1 b k ≠ j) ∨ ∀ i, i < n → s.2.1 104 (6 * b + i) = 1 := by
    intro n
    induction n with
    | zero => exact fun _ => Or.inr (fun i hi => absurd hi (Nat.not_lt_zero _))
    | succ n ih =>
      intro hn
      rcases ih (by omega) with ⟨j, g1, g2⟩ | g
      · exact Or.inl ⟨j, by omega, g2⟩
      · rcases alt n (by omega) with y | y
        · right
          intro i hi
          by_cases e : i = n
          · rw [e]; exact y
          · exact g i (by omega)
        · exact Or.inl ⟨n, by omega, y.1, g, y.2⟩
  rcases key i0 (Nat.le_refl _) with ⟨j, g1, g2⟩ | g
  · exact ⟨j, by omega, g2⟩
  · rcases alt i0 h1 with y | y
    · exact ⟨i0, h1, m8 i0 h1 h2, g, h2⟩
    · exact ⟨i0, h1, y.1, g, h2⟩
theorem vTy_2 (h : vTy ka a t v) (hv : srt v = 2) : ∃ o : Nat, 1 ≤ o ∧ o ≤ ka.2.2.1 ∧ v = mdV 2 (Int32.ofNat o) := by
  have z0 : ¬ srt 0 = 2 := by decide
  rcases h with ⟨_, y, h⟩ | ⟨_, h⟩ | ⟨_, _, h | ⟨o, o1, o2, h, _⟩⟩ | ⟨_, _, h | ⟨b, _, h, _⟩⟩ | ⟨_, _, h, _⟩
  · rw [h, md_hi 1 y (by decide)] at hv; exact absurd hv (by decide)
  · rw [h] at hv; exact absurd hv z0
  · rw [h] at hv; exact absurd hv z0
  · exact ⟨o, o1, o2, h⟩
  · rw [h] at hv; exact absurd hv z0
  · rw [h, md_hi 3 _ (by decide)] at hv; exact absurd hv (by decide)
  · rw [h, md_hi 3 _ (by decide)] at hv; exact absurd hv (by decide)
theorem oV_s (h : oV v ≠ 0) : srt v = 2 := by
  unfold oV at h
  by_cases c : srt v = 2
  · exact c
  · rw [if_neg c] at h; exact absurd rfl h
theorem vK_of (h : vTy ka a t v) (ob4 : ka.2.2.1 ≤ 400) (hk : oV v ≠ 0 → Kp (oV v)) : vKn Kp v := by
  intro hv
  obtain ⟨o, o1, o2, e⟩ := vTy_2 h hv
  have ho : oV v = o := by rw [e]; exact oV_2 (by omega)
  exact ⟨o, e, by rw [← ho]; exact hk (by omega), o1, by omega⟩
theorem vI_of {Lo : List Nat} (h : vIn Lo v) (b4 : ∀ o ∈ Lo, o ≤ 400) (o0 : oV v ≠ 0) : oV v ∈ Lo := by
  obtain ⟨o, e, ho⟩ := h (oV_s o0)
  rw [e, oV_2 (b4 o ho)]
  exact ho
/-- vTy of what can be sent is everybody's -/
theorem vTy_d (dt : dTy t = true) (h : vTy ka a t v) : vTy ka b t v := by
  have dc := dTy_c dt
  rcases h with h | h | h | h | h
  · exact Or.inl h
  · exact Or.inr (Or.inl h)
  · exact Or.inr (Or.inr (Or.inl h))
  · exact Or.inr (Or.inr (Or.inr (Or.inl h)))
  · omega
theorem KNc_w (w : wAl sB kc om ka la ms N cn sg s D) (ac : a < ka.2.2.2) (a12 : a < 12) (ob4 : ka.2.2.1 ≤ 400) (kfr : kFr sB kc) (hK : ∀ o, Kp o → om.2.2.2.1 a o) (hc : ∀ o f, Kp o → 1 ≤ o → o ≤ ka.2.2.1 → f < (kc (ka.1 o)).1 → oV (om.1 (pO o f)) ≠ 0 → Kp (oV (om.1 (pO o f)))) : KNc s a Kp ∧ ∀ o, Kp o → OBJ s o (ka.1 o) (la.2.2.1 o) (kc (ka.1 o)).1 := by
  have ob : ∀ o, Kp o → OBJ s o (ka.1 o) (la.2.2.1 o) (kc (ka.1 o)).1 := by
    intro o ho
    obtain ⟨⟨x1, x2⟩, gi, wn, wo, wd, wa⟩ := w
    obtain ⟨⟨z1, z2⟩, _, _⟩ := (wa a ac).1 o (hK o ho)
    obtain ⟨⟨k1, k2, k3⟩, q1, q2, q3, q4, q5, q6, q7⟩ := wo o z1 z2
    obtain ⟨em, y1, f0, y2, y3, y4, y5, y6⟩ := kfr (ka.1 o) k1 k3 k2
    have l4 : la.2.2.1 o + (kc (ka.1 o)).1 ≤ 400 := by
      obtain ⟨clm, mb, tn, ⟨_, _, n1⟩, _, _, _, ⟨_, _, n2⟩, ⟨_, n3⟩, _⟩ := wn
      omega
    refine ⟨q3, q4, l4, em, y1, f0, by rw [x1 64 (by decide)]; exact y2, by rw [x1 64 (by decide)]; exact y3, y4, y5, fun f hf => ?_⟩
    obtain ⟨w, w1, w2, w3⟩ := y6 f hf
    exact ⟨w, w1, by rw [x1 69 (by decide)]; exact w2, by rw [x1 60 (by decide)]; exact w3⟩
  refine ⟨fun o ho o1 o4 => ⟨_, _, _, ob o ho, fun f hf => ?_⟩, ob⟩
  obtain ⟨_, _, _, wo, _, wa⟩ := w
  obtain ⟨⟨z1, z2⟩, _, z3⟩ := (wa a ac).1 o (hK o ho)
  obtain ⟨_, _, _, _, _, _, _, q7⟩ := wo o z1 z2
  have cp : cPy s a (la.2.2.1 o + f) = om.1 (pO o f) := (z3 f hf).1
  unfold cPy at cp
  rw [if_pos a12, ← Nat.add_assoc] at cp
  rw [cp]
  exact vK_of (q7 f hf).2.1 ob4 (hc o f ho z1 z2 hf)
/-- the store, and what the reference follows -/
theorem snd_1 (it : iTm sB A B mi kc om ka la ms N cn sg s D x a d) (kfr : kFr sB kc) (eS : fSt (x a d) = vE (fL (x a d)) ts ++ S0) (lps : ps.length = ts.length) (fit : ∀ (j t' q' : Nat), ts[j]? = some t' → ps[j]? = some q' → fitC (cT t') (cT q') = 0) (dps : ∀ q' ∈ ps, dTy q' = true) (sd : ∀ q' ∈ ps, sdT q' = true) (b j : Nat) : ∃ om1 : oMg, sNt om om1 ka.2.2.1 N a (6 * b + j) (fQ (x a d) + S0.length) ps (eLr om N a d (fL (x a d)) (x a)) ∧ (∀ i, i < ps.length → vKn (fun o => om.2.2.2.1 a o ∧ (om1.2.2.1.2.1 o = 0 ∨ om1.2.2.1.2.2.2.2 (om1.2.2.1.2.1 o) = 12 + (6 * b + j))) (s.2.2 97 (10100 * a + (fQ (x a d) + S0.length) + i))) ∧ KNc s a (fun o => om.2.2.2.1 a o ∧ (om1.2.2.1.2.1 o = 0 ∨ om1.2.2.1.2.2.2.2 (om1.2.2.1.2.1 o) = 12 + (6 * b + j))) ∧ ∀ o, (fun o => om.2.2.2.1 a o ∧ (om1.2.2.1.2.1 o = 0 ∨ om1.2.2.1.2.2.2.2 (om1.2.2.1.2.1 o) = 12 + (6 * b + j))) o → OBJ s o (ka.1 o) (la.2.2.1 o) (kc (ka.1 o)).1 := by
  obtain ⟨⟨a12, d10, u1, u2, u3, u4⟩, rq, fx, b3, r92, b8, gi, rl, ob4⟩ := it_f it
  have it0 := it
  obtain ⟨wl, _, _, ⟨_, ac, _⟩, vl, rg, nm, _, _, so, r93, _⟩ := it0
  obtain ⟨om1, sn⟩ := snd_st (s0 := (6 * b + j)) it eS lps fit dps sd
  have sn0 := sn
  obtain ⟨gi', eK, st, sa, sW, sT, oN⟩ := sn0
  have sv := vl.2.2.2
  rw [eS] at sv
  have N0 : N ≠ 0 := by have := gi.2.2.2.2; omega
  have cWO : ∀ o f, om1.1 (pO o f) = om.1 (pO o f) ∧ om1.2.1 (pO o f) = om.2.1 (pO o f) := fun o f => ⟨sW _ (fun i _ => by unfold pO pM; omega), sT _ (fun i _ => by unfold pO pM; omega) (fun i _ => by unfold pO pS; omega)⟩
  refine ⟨om1, sn, fun i hi => ?_, KNc_w (Kp := (fun o => om.2.2.2.1 a o ∧ (om1.2.2.1.2.1 o = 0 ∨ om1.2.2.1.2.2.2.2 (om1.2.2.1.2.1 o) = 12 + (6 * b + j)))) wl ac a12 ob4 kfr (fun o h => h.1) (fun o f h o1 o2 hf o0 => ⟨?_, ?_⟩)⟩
  · have h1 : ts[i]? = some ts[i] := List.getElem?_eq_getElem (by omega)
    have h2 : ps[i]? = some ps[i] := List.getElem?_eq_getElem hi
    obtain ⟨z1, z2, z3, _⟩ := arg_at sv h1
    have z1 : vAl om ka a ts[i] (om.1 (pS a (fQ (x a d) + (S0.length + i)))) := z1
    have z3 : s.2.2 97 (10100 * a + (fQ (x a d) + (S0.length + i))) = om.1 (pS a (fQ (x a d) + (S0.length + i))) := z3
    rw [show 10100 * a + (fQ (x a d) + S0.length) + i = 10100 * a + (fQ (x a d) + (S0.length + i)) from by omega, z3]
    refine vK_of z1.1 ob4 (fun o0 => ⟨z1.2 o0, ?_⟩)
    obtain ⟨y1, y2, y3⟩ := sa i _ h2
    have e : pS a ((fQ (x a d) + S0.length) + i) = pS a (fQ (x a d) + (S0.length + i)) := by rw [Nat.add_assoc]
    rw [e] at y1
    have dt := dTy_c (dps _ (List.mem_iff_getElem?.mpr ⟨i, h2⟩))
    have := own_p (om := om1) (l := pM (6 * b + j) i) (Dd := 12 + (6 * b + j)) gi' (by rw [y2]; omega) y3 N0 oN (by rw [y1]; exact o0)
    rw [y1] at this
    exact this
  · obtain ⟨_, _, z3⟩ := (wl.2.2.2.2.2 a ac).1 o h.1
    exact (z3 f hf).2 o0
  · obtain ⟨⟨_, _, n8⟩, _, _, _, _, _, _, q7⟩ := wl.2.2.2.1 o o1 o2
    obtain ⟨q1, q2, _⟩ := q7 f hf
    have t0 : om1.2.1 (pO o f) ≠ 0 := by
      rw [(cWO o f).2, q1]
      exact (vTy_o q2 o0).2
    have := own_fl (om := om1) (Dd := 12 + (6 * b + j)) gi' (by omega : o ≠ 0) (by omega : f < 8) t0 h.2 (by rw [(cWO o f).1]; exact o0)
    rw [(cWO o f).1] at this
    exact this
/-- A MESSAGE HAS GONE -/
theorem snd_2 {L : List Nat} (it : iTm sB A B mi kc om ka la ms N cn sg s D x a d) (eS : fSt (x a d) = vE (fL (x a d)) ts ++ S0) (pf : eLv (fL (x a d)) S0) (lps : ps.length = ts.length) (fit : ∀ (j t' q' : Nat), ts[j]? = some t' → ps[j]? = some q' → fitC (cT t') (cT q') = 0) (bc : b < ka.2.2.2) (j6 : j < 6) (jf : ∀ k, k < ms.1 b → ms.2.2.1 b k ≠ j) (room : ∀ mb, mb ≤ 6 → sg.1 6 = Int32.ofNat mb → ms.1 b < mb)
    (sn : sNt om om1 ka.2.2.1 N a (6 * b + j) (fQ (x a d) + S0.length) ps (eLr om N a d (fL (x a d)) (x a))) (obs : ∀ o, (fun o => om.2.2.2.1 a o ∧ (om1.2.2.1.2.1 o = 0 ∨ om1.2.2.1.2.2.2.2 (om1.2.2.1.2.1 o) = 12 + (6 * b + j))) o → OBJ s o (ka.1 o) (la.2.2.1 o) (kc (ka.1 o)).1)
    (pm : pmT sB m ps) (p6 : ps.length ≤ 6) (sd : ∀ t ∈ ps, sdT t = true) (m72 : m < 72) (m71 : sB.2.1 71 m = Int32.ofNat (ka.2.1 b)) (m70 : sB.2.1 70 m ≠ 1 ∧ mRl sB m)
    (wli : WLI (fun o => om.2.2.2.1 a o ∧ (om1.2.2.1.2.1 o = 0 ∨ om1.2.2.1.2.2.2.2 (om1.2.2.1.2.1 o) = 12 + (6 * b + j))) (401 * (6 * b + j)) br wk L) (don : DON s a (6 * b + j) bt L L.length) (hag : ∀ i, i < ps.length → ag (6 * (6 * b + j) + i) = s.2.2 97 (10100 * a + (fQ (x a d) + S0.length) + i) ∧ vIn L (s.2.2 97 (10100 * a + (fQ (x a d) + S0.length) + i))) (hag' : ∀ i, (i < 6 * (6 * b + j) ∨ 6 * (6 * b + j) + ps.length ≤ i) → ag i = s.2.2 106 i) (hbt : ∀ x, (x < 400 * (6 * b + j) ∨ 400 * (6 * b + j) + 400 ≤ x) → bt x = s.2.2 107 x) (hbr : ∀ x, (x < 401 * (6 * b + j) ∨ 401 * (6 * b + j) + 401 ≤ x) → br x = s.2.1 105 x)
    (cl : kCs a b sg sg') (c12 : sg'.2.2.2.1 a 12 = sg.2.2.2.1 a 12) (c13 : sg'.1 13 = sg.1 13 + 1) (c4 : sg'.2.2.1 b 4 = Int32.ofNat (ms.1 b + 1)) (cm : sg'.2.2.2.1 b 10 ((ms.2.1 b + ms.1 b) % 6 * 7) = Int32.ofNat m) (ca : ∀ i, i < ps.length → sg'.2.2.2.1 b 10 ((ms.2.1 b + ms.1 b) % 6 * 7 + 1 + i) = sg.2.2.2.1 a 12 ((fBs (x a d) + (mi (fMe (x a d))).2.2.2.2 + S0.length) + i)) (co : ∀ i, i < ((ms.2.1 b + ms.1 b) % 6 * 7) ∨ ((ms.2.1 b + ms.1 b) % 6 * 7) + 6 < i → sg'.2.2.2.1 b 10 i = sg.2.2.2.1 b 10 i) (so' : SOK sg' a (fBs (x a d) + (mi (fMe (x a d))).2.2.2.2 + S0.length)) :
    iTm sB A B mi kc (omS om1 a (6 * b + j) L) ka la (msS ms b j m N) (N + 1) cn sg' (sSd (sS1 (rs_wA s 93 a (Int32.ofNat (fQ (x a d) + S0.length))) b (ms.1 b) (6 * b + j) m) br wk bt ag) D (xU x a d (fMe (x a d), fL (x a d), fG (x a d), fGn (x a d), S0, fRe (x a d), fBs (x a d), fQ (x a d))) a d := by
  obtain ⟨⟨a12, d10, u1, u2, u3, u4⟩, rq, fx, b3, r92, b8, gi, rl, ob4⟩ := it_f it
  have it0 := it
  obtain ⟨wl, _, _, ⟨_, ac, _⟩, vl, rg, nm, _, _, so, r93, _⟩ := it0
  have sn0 := sn
  obtain ⟨gi', eK, st, sa, sW, sT, oN⟩ := sn0
  have sv := vl.2.2.2
  rw [eS] at sv
  have bc12 : b < 12 := by
    obtain ⟨_, _, ⟨_, _, _, _, _, ⟨_, _, z⟩, _⟩, _⟩ := wl
    omega
  have l4 : ∀ o ∈ L, o ≤ 400 := fun o ho => (wli.2.2.2 o ho).2.2
  have hE : ∀ y, y = 0 ∨ (y < N ∧ om.2.2.1.2.2.2.2 y ≠ a) → eLr om N a d (fL (x a d)) (x a) y := fun y hy => by
    rcases hy with z | z
    · exact Or.inl z
    · exact Or.inr (Or.inl z)
  have u3' : S0.length + ts.length ≤ 1010 := by
    rw [eS, List.length_append, vE_len] at u3
    omega
  -- the reference's state
  have rI : ∀ p i, (sSd (sS1 (rs_wA s 93 a (Int32.ofNat (fQ (x a d) + S0.length))) b (ms.1 b) (6 * b + j) m) br wk bt ag).2.1 p i = if p = 110 then wk i else if p = 105 then br i else if p = 103 ∧ i = (6 * b + j) then Int32.ofNat m else if p = 94 ∧ i = b then Int32.ofNat (ms.1 b + 1) else if p = 102 ∧ i = 6 * b + ms.1 b then Int32.ofNat (6 * b + j) else if p = 104 ∧ i = (6 * b + j) then 1 else if p = 93 ∧ i = a then Int32.ofNat (fQ (x a d) + S0.length) else s.2.1 p i := by
    intro p i
    rw [sde_1]
    by_cases c1 : p = 110
    · rw [if_pos c1, if_pos c1]
    · rw [if_neg c1, if_neg c1]
      by_cases c2 : p = 105
      · rw [if_pos c2, if_pos c2]
      · rw [if_neg c2, if_neg c2]
        show (rs_wA (rs_w (rs_wA (rs_wA (rs_wA (rs_wA s 93 a (Int32.ofNat (fQ (x a d) + S0.length))) 104 (6 * b + j) 1) 102 (6 * b + ms.1 b) (Int32.ofNat (6 * b + j))) 94 b (Int32.ofNat (ms.1 b + 1))) 82 _) 103 (6 * b + j) (Int32.ofNat m)).2.1 p i = _
        rw [wA_get]
        show (if p = 103 ∧ i = (6 * b + j) then Int32.ofNat m else (rs_wA (rs_wA (rs_wA (rs_wA s 93 a (Int32.ofNat (fQ (x a d) + S0.length))) 104 (6 * b + j) 1) 102 (6 * b + ms.1 b) (Int32.ofNat (6 * b + j))) 94 b (Int32.ofNat (ms.1 b + 1))).2.1 p i) = _
        rw [wA_get, wA_get, wA_get, wA_get]
  have rL : ∀ p i, (sSd (sS1 (rs_wA s 93 a (Int32.ofNat (fQ (x a d) + S0.length))) b (ms.1 b) (6 * b + j) m) br wk bt ag).2.2 p i = if p = 106 then ag i else if p = 107 then bt i else s.2.2 p i := by
    intro p i
    rw [sde_2]
    by_cases c1 : p = 106
    · rw [if_pos c1, if_pos c1]
    · rw [if_neg c1, if_neg c1]
      by_cases c2 : p = 107
      · rw [if_pos c2, if_pos c2]
      · rw [if_neg c2, if_neg c2]
        rfl
  have r1 : ∀ p, p ≠ 82 → (sSd (sS1 (rs_wA s 93 a (Int32.ofNat (fQ (x a d) + S0.length))) b (ms.1 b) (6 * b + j) m) br wk bt ag).1 p = s.1 p := fun p hp => upd_ne' (g := s.1) hp
  have r82 : (sSd (sS1 (rs_wA s 93 a (Int32.ofNat (fQ (x a d) + S0.length))) b (ms.1 b) (6 * b + j) m) br wk bt ag).1 82 = s.1 82 + 1 := upd_eq' (g := s.1) (i := 82) (v := s.1 82 + 1)
  have rf : kRs a b (6 * b + j) (ms.1 b) s (sSd (sS1 (rs_wA s 93 a (Int32.ofNat (fQ (x a d) + S0.length))) b (ms.1 b) (6 * b + j) m) br wk bt ag) := by
    refine ⟨r1, fun p i h1 h2 h3 h4 h5 h6 => ?_, fun p i h1 h2 => ?_⟩
    · rw [rI, if_neg h6]
      by_cases c : p = 105
      · rw [if_pos c, c]
        exact hbr i (by omega)
      · rw [if_neg c, if_neg (by omega), if_neg h4, if_neg h3, if_neg (by omega), if_neg h1]
    · rw [rL]
      by_cases c : p = 106
      · rw [if_pos c, c]
        exact hag' i (by omega)
      · rw [if_neg c]
        by_cases c2 : p = 107
        · rw [if_pos c2, c2]
          exact hbt i (by omega)
        · rw [if_neg c2]
  have e1382 : sg.1 13 = s.1 82 := by
    obtain ⟨_, _, ⟨_, _, _, _, _, _, _, _, _, _, _, ⟨z, _⟩, _⟩, _⟩ := wl
    exact z
  have w' : wAl sB kc (omS om1 a (6 * b + j) L) ka la (msS ms b j m N) (N + 1) cn sg' (sSd (sS1 (rs_wA s 93 a (Int32.ofNat (fQ (x a d) + S0.length))) b (ms.1 b) (6 * b + j) m) br wk bt ag) D := by
    refine wAl_s (E := eLr om N a d (fL (x a d)) (x a)) (Pq := fun l => ∃ i, i < ps.length ∧ l = pM (6 * b + j) i) (ps := ps) wl ac bc j6 jf room gi' eK st hE (eL_m it) (fun l ⟨i, hi, hl⟩ => ?_) (fun l hl => ?_) oN (fun i q' hq => ?_) pm p6 sd m72 m71 m70 (fun o ho => (wli.2.2.2 o ho).1) (fun o ho f hf => ?_) (fun o o1 o4 => ?_) cl (by rw [c13, r82, e1382]) c4 cm co rf ?_ ?_ ?_ ?_
    · rw [hl]
      unfold pM
      omega
    · have h3 : ∀ i, i < ps.length → l ≠ pM (6 * b + j) i := fun i hi z => by rw [z] at hl; unfold pM at hl; omega
      exact ⟨sW l h3, sT l h3 (fun i _ z => by rw [z] at hl; unfold pS at hl; omega)⟩
    · have hi : i < ps.length := by
        obtain ⟨z, _⟩ := List.getElem?_eq_some_iff.mp hq
        exact z
      have h1 : ts[i]? = some ts[i] := List.getElem?_eq_getElem (by omega)
      obtain ⟨z1, z2, z3, _, z5, _⟩ := arg_at sv h1
      have z1 : vAl om ka a ts[i] (om.1 (pS a (fQ (x a d) + (S0.length + i)))) := z1
      have z2 : sg.2.2.2.1 a 12 (fBs (x a d) + (mi (fMe (x a d))).2.2.2.2 + (S0.length + i)) = cvl (om.1 (pS a (fQ (x a d) + (S0.length + i)))) := z2
      have z3 : s.2.2 97 (10100 * a + (fQ (x a d) + (S0.length + i))) = om.1 (pS a (fQ (x a d) + (S0.length + i))) := z3
      obtain ⟨y1, y2, y3⟩ := sa i _ hq
      have e : pS a ((fQ (x a d) + S0.length) + i) = pS a (fQ (x a d) + (S0.length + i)) := by rw [Nat.add_assoc]
      have e2 : 10100 * a + (fQ (x a d) + S0.length) + i = 10100 * a + (fQ (x a d) + (S0.length + i)) := by omega
      have dq := pm_d pm q' (List.mem_iff_getElem?.mpr ⟨i, hq⟩)
      have fv := fit_v z5 dq (fit i _ q' h1 hq) z1.1
      obtain ⟨g1, g2⟩ := hag i hi
      rw [e2, z3] at g1 g2
      rw [e] at y1
      refine ⟨y2, y3, by rw [y1]; exact vTy_d dq fv, fun o0 => ?_, ?_, ?_⟩
      · rw [y1] at o0 ⊢
        exact vI_of g2 l4 o0
      · rw [ca i hi, y1, Nat.add_assoc _ S0.length]
        exact z2
      · rw [rL, if_pos rfl, g1, y1]
    · have ko := (wli.2.2.2 o ho).1
      obtain ⟨z1, _, z3⟩ := (wl.2.2.2.2.2 a ac).1 o ko.1
      obtain ⟨i, hi⟩ := List.mem_iff_getElem?.mp ho
      have il : i < L.length := by
        obtain ⟨z, _⟩ := List.getElem?_eq_some_iff.mp hi
        exact z
      obtain ⟨d1, d2⟩ := don i o il hi _ _ _ (obs o ko) f hf
      have cp : cPy s a (la.2.2.1 o + f) = om.1 (pO o f) := (z3 f hf).1
      unfold cPy at cp
      rw [if_pos a12, ← Nat.add_assoc] at cp
      rw [cp] at d1 d2
      refine ⟨?_, fun o0 => vI_of d2 l4 o0⟩
      rw [rL, if_neg (by decide), if_pos rfl, ← Nat.add_assoc]
      exact d1
    · rw [rI, if_neg (by decide), if_pos rfl, wli.2.2.1 o o4]
      by_cases c : o ∈ L
      · rw [if_pos c]
        exact ⟨fun _ => c, fun _ => by decide⟩
      · rw [if_neg c]
        exact ⟨fun z => absurd rfl z, fun z => absurd z c⟩
    · rw [rI, if_neg (by decide), if_neg (by decide), if_neg (fun z => absurd z.1 (by decide)), if_pos ⟨rfl, rfl⟩]
    · rw [rI, if_neg (by decide), if_neg (by decide), if_neg (fun z => absurd z.1 (by decide)), if_neg (fun z => absurd z.1 (by decide)), if_neg (fun z => absurd z.1 (by decide)), if_pos ⟨rfl, rfl⟩]
    · rw [rI, if_neg (by decide), if_neg (by decide), if_neg (fun z => absurd z.1 (by decide)), if_neg (fun z => absurd z.1 (by decide)), if_pos ⟨rfl, rfl⟩]
    · rw [rI, if_neg (by decide), if_neg (by decide), if_pos ⟨rfl, rfl⟩]
  exact it_snd (b := b) (wt := ms.1 b) it eS pf sn w' cl c12 rf so' (by
    rw [rI, if_neg (by decide), if_neg (by decide), if_neg (fun z => absurd z.1 (by decide)), if_neg (fun z => absurd z.1 (by decide)), if_neg (fun z => absurd z.1 (by decide)), if_neg (fun z => absurd z.1 (by decide)), if_pos ⟨rfl, rfl⟩]) (by omega)
end JSM
