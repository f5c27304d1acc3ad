/-! THE CLASS'S BUILD up to its parser's run. -/
/-- the places of a build that begins at heap length H -/
def cxB (H n c m : Nat) : Nat → Nat
  | 0 => 27 + H
  | 1 => 28 + H
  | 2 => 29 + H
  | 3 => 30 + H
  | 4 => 31 + H
  | 5 => 32 + H
  | 6 => n
  | 7 => 33 + H
  | 8 => 21 + H
  | 9 => 22 + H
  | 10 => 23 + H
  | 11 => 24 + H
  | 12 => 25 + H
  | 13 => 26 + H
  | 14 => 0
  | 15 => c
  | 16 => m
  | _ => 0
/-- the rows of a build -/
def FB (f A B C D E G : Nat → Int32) : Nat → Nat → Int32
  | 0 => f
  | 1 => A
  | 2 => B
  | 3 => C
  | 4 => D
  | 5 => E
  | _ => G
section BH
variable {L : Nat} {xs : Nat → Int32} {zf : Value} {w k : Nat} {h h' h1 h2 : rm_H} {p b n m r t a tk pl en : Nat} {f : Nat → Int32} {ml : Int32} {v v2 A B C A2 B2 C2 : Nat → Int32}
theorem sB_fr {P : Nat → Prop} (a : fr P h h1) (hP : ¬ P p) (hS : sB h p b n m ml f) : sB h1 p b n m ml f := by
  obtain ⟨hp, hb, hpb, hn, hm, hf, e1, e2⟩ := hS
  exact ⟨hp, hb, hpb, hn, hm, hf, hc_at (fr_old a (hc_of hp e1) hP), hc_at (fr_by (n := m) (f := f) a (hc_of hb e2))⟩
theorem uA_of (hl : h.length ≤ h1.length) (e : ∀ l fs, hc h1 l = some (.inr (5, fs)) → hc h l = some (.inr (5, fs))) (u : uA h) : uA h1 := by
  refine ⟨fun l ar fs g => ?_, fun l l2 ar fs fs2 g g2 => u.2 l l2 ar fs fs2 (e _ _ g) (e _ _ g2)⟩
  have := u.1 l ar fs (e _ _ g)
  omega
theorem rP_frm (x : rP h r t a tk pl en n f v A B C) (y : rP h1 r t a tk pl en n f v2 A2 B2 C2) (hl : h1.length = h.length) (q : ∀ q, q ≠ r - 21 → q ≠ tk - 21 → q ≠ pl - 21 → q ≠ en - 21 → h1[q]? = h[q]?) : fr (fun y => y = r ∨ y = tk ∨ y = pl ∨ y = en) h h1 ∧ (uA h → uA h1) := by
  obtain ⟨⟨p1, p2, p3, p4, p5, p6⟩, nd, hn, a1, a2, a3, a4, a5, a6⟩ := x
  obtain ⟨_, _, _, b1, b2, b3, b4, b5, b6⟩ := y
  have key : ∀ z, ¬ (z = r ∨ z = tk ∨ z = pl ∨ z = en) → hc h1 z = hc h z := by
    intro z hz
    unfold hc
    split
    · exact q _ (by omega) (by omega) (by omega) (by omega)
    · rfl
  refine ⟨⟨by omega, fun z _ hz => key z hz, fun z ci fs e => ?_, fun z x e => ?_⟩, fun u => uA_of (by omega) (fun l fs e => ?_) u⟩
  · by_cases c : z = r ∨ z = tk ∨ z = pl ∨ z = en
    · rcases c with c | c | c | c
      · subst c
        rw [hc_of p1 a1] at e
        cases e
        exact ⟨_, hc_of p1 b1, fun u => absurd u (by decide)⟩
      · subst c; rw [hc_of p4 a4] at e; cases e
      · subst c; rw [hc_of p5 a5] at e; cases e
      · subst c; rw [hc_of p6 a6] at e; cases e
    · exact ⟨fs, (key z c).trans e, fun _ => rfl⟩
  · by_cases c : z = r ∨ z = tk ∨ z = pl ∨ z = en
    · rcases c with c | c | c | c
      · subst c; rw [hc_of p1 a1] at e; cases e
      · subst c
        rw [hc_of p4 a4] at e
        cases e
        exact ⟨_, hc_of p4 b4, fun u => absurd u (show ¬ (0 : Nat) = 1 by decide)⟩
      · subst c
        rw [hc_of p5 a5] at e
        cases e
        exact ⟨_, hc_of p5 b5, fun u => absurd u (show ¬ (0 : Nat) = 1 by decide)⟩
      · subst c
        rw [hc_of p6 a6] at e
        cases e
        exact ⟨_, hc_of p6 b6, fun u => absurd u (show ¬ (0 : Nat) = 1 by decide)⟩
    · exact ⟨x, (key z c).trans e, fun _ => rfl⟩
  · by_cases c : l = r ∨ l = tk ∨ l = pl ∨ l = en
    · exfalso
      rcases c with c | c | c | c
      · subst c; rw [hc_of p1 b1] at e; cases e
      · subst c; rw [hc_of p4 b4] at e; cases e
      · subst c; rw [hc_of p5 b5] at e; cases e
      · subst c; rw [hc_of p6 b6] at e; cases e
    · rw [← key l c]; exact e
/-- what build does once its parser is made -/
def bR (L : Nat) (xs : Nat → Int32) (zf : Value) (D : dD) (w : Nat) (pg : Nat) (r : Option dR) : Option dR :=
  (r.bind dxV).bind fun h44 =>
  (dgI L xs h44 7 [4] (some pg)).bind fun x48 =>
  if mx_f1 .ne x48 = true then
    b43_59 L xs zf D w (some 21) (some pg) h44
  else
    ((dcV L xs D 145 [4] (some pg) [] h44).bind dxV).bind fun h51 =>
    b43_59 L xs zf D w (some 21) (some pg) h51
theorem c_head {fs : List Value} (hB : hc h 21 = some (.inr (0, fs))) (h0 : fs[0]? = some (.ref p)) (hS : sB h p b n m ml f) (hn : n ≤ 2000) (hw : 2100 ≤ w) (u : uA h) : ∃ h' f2 c A B C, b43_0 L xs zf (dM L xs zf w (k + 10)) w (some 21) h = bR L xs zf (dM L xs zf w (k + 10)) w (21 + h.length) (dM L xs zf w (k + 10) 91 [.ref (33 + h.length)] h') ∧ (∀ i, i < n → f2 i = f i) ∧ (∀ i, fits .byte (.int (f2 i)) = true) ∧ (c, A, B, C) = lxC (fun i => f2 i &&& 255) n n 0 0 (fun _ => 0) (fun _ => 0) (fun _ => 0) ∧ (∀ m D E G, (c : Int) ≤ n → c ≤ 100000 → pC h' (cxB h.length n c m) (FB f2 A B C D E G) (v00 (cxB h.length n c m))) ∧ hc h' (21 + h.length) = some (pgC (cxB h.length n c 0) 0 0) ∧ aL h' (22 + h.length) 5 0 [] ∧ aL h' (23 + h.length) 5 0 [] ∧ aL h' (24 + h.length) 5 0 [] ∧ uA h' ∧ hc h' (25 + h.length) = some (iN0 64) ∧ hc h' (26 + h.length) = some (iN0 64) ∧ fr (fun _ => False) h h' ∧ h'.length = h.length + 13 ∧ zh h' = zh h + 12 + 9 + 128 + 9 + 4 + n + 3 * (n + 1) + 2 ∧ ∀ d fs, 21 + h.length ≤ d → hc h' d ≠ some (.inr (10, fs)) := by
  have g1 := fr_app (h := h) (fun _ => False) (.inr (4, ah_DV 4))
  have s1 := sB_fr g1 (fun z => z) hS
  have B1 := hc_up (c2 := .inr (4, ah_DV 4)) hB
  have l1 : (h ++ [(.inr (4, ah_DV 4) : rm_E)]).length = h.length + 1 := by simp
  obtain ⟨h9, d1, d2, d3, d4, d5, d6, d7, d8, d9, d10, d11⟩ := c_44 (L := L) (xs := xs) (zf := zf) (w := w) (k := k + 6) (x := Int32.ofNat n) (hc_new (h := h) (.inr (4, ah_DV 4)))
  rw [l1, show 21 + (h.length + 1) = 22 + h.length from by omega, show 22 + (h.length + 1) = 23 + h.length from by omega, show 23 + (h.length + 1) = 24 + h.length from by omega, show 24 + (h.length + 1) = 25 + h.length from by omega, show 25 + (h.length + 1) = 26 + h.length from by omega] at d2
  rw [l1, show 21 + (h.length + 1) = 22 + h.length from by omega] at d3
  rw [l1, show 22 + (h.length + 1) = 23 + h.length from by omega] at d4
  rw [l1, show 23 + (h.length + 1) = 24 + h.length from by omega] at d5
  rw [l1, show 24 + (h.length + 1) = 25 + h.length from by omega] at d6
  rw [l1, show 25 + (h.length + 1) = 26 + h.length from by omega] at d7
  rw [l1] at d9
  have p21 : p < 21 + h.length := hc_lt (hc_of hS.1 hS.2.2.2.2.2.2.1)
  have b21 := hc_lt hB
  have g9 : fr (fun _ => False) h h9 := fr_trans g1 d8 (fun z hz e => by have : z = 21 + h.length := e; omega) |> fun x => fr_mono x (fun z hz e => e)
  have s9 := sB_fr d8 (fun z => by have : p = 21 + h.length := z; omega) s1
  have B9 := fr_old d8 B1 (fun z => by have : 21 = 21 + h.length := z; have := hc_lt hB; have := hS.1; omega)
  have u9 := d11 (uA_ap (Or.inl (fun _ z => by cases z)) u)
  -- the reader
  have g15 := fr_app (h := h9) (fun _ => False) (.inr (6, ah_DV 6))
  have s15 := sB_fr g15 (fun z => z) s9
  have B15 := hc_up (c2 := .inr (6, ah_DV 6)) B9
  have l15 : (h9 ++ [(.inr (6, ah_DV 6) : rm_E)]).length = h.length + 7 := by rw [List.length_append, d9]; rfl
  have u15 := uA_ap (c := .inr (6, ah_DV 6)) (Or.inl (fun _ z => by cases z)) u9
  obtain ⟨f2, q1, q2, q3⟩ := c_48 (L := L) (xs := xs) (zf := zf) (w := w) (k := k + 4) s15
  rw [l15, show 21 + (h.length + 7) = 28 + h.length from by omega, show 22 + (h.length + 7) = 29 + h.length from by omega] at q1
  generalize eX : (h9 ++ [(.inr (6, ah_DV 6) : rm_E)]) = hx at g15 s15 B15 l15 u15 q1
  have gS := fr_app (h := hx) (fun _ => False) (.inr (7, [.ref (29 + h.length), .int 0, .int 0, .int 0]))
  have lS : (hx ++ [(.inr (7, [.ref (29 + h.length), .int 0, .int 0, .int 0]) : rm_E)]).length = h.length + 8 := by rw [List.length_append, l15]; rfl
  have eS : hc (hx ++ [(.inr (7, [.ref (29 + h.length), .int 0, .int 0, .int 0]) : rm_E)]) (28 + h.length) = some (.inr (7, [.ref (29 + h.length), .int 0, .int 0, .int 0])) := by rw [show 28 + h.length = 21 + hx.length from by omega]; exact hc_new _
  have eR : hc hx (27 + h.length) = some (.inr (6, ah_DV 6)) := by rw [← eX, show 27 + h.length = 21 + h9.length from by omega]; exact hc_new _
  have uS := uA_ap (c := .inr (7, [.ref (29 + h.length), .int 0, .int 0, .int 0])) (Or.inl (fun _ z => by cases z)) u15
  have yS : zh (hx ++ [(.inr (7, [.ref (29 + h.length), .int 0, .int 0, .int 0]) : rm_E)]) = zh h + 12 + 9 + 128 + 9 + 4 := by
    rw [zh_app, ← eX, zh_app, d10, zh_app]
    show zh h + 12 + 9 + 2 * 64 + 9 + 4 = _
    rfl
  have eR1 := hc_up (c2 := .inr (7, [.ref (29 + h.length), .int 0, .int 0, .int 0])) eR
  have B19 := hc_up (c2 := .inr (7, [.ref (29 + h.length), .int 0, .int 0, .int 0])) B15
  generalize eZ : (hx ++ [(.inr (7, [.ref (29 + h.length), .int 0, .int 0, .int 0]) : rm_E)]) = hz at gS lS eS uS yS q1 eR1 B19
  have gB := fr_app (h := hz) (fun _ => False) (byA n f2)
  have lB : (hz ++ [byA n f2]).length = h.length + 9 := by rw [List.length_append, lS]; rfl
  have eB : hc (hz ++ [byA n f2]) (29 + h.length) = some (byA n f2) := by rw [show 29 + h.length = 21 + hz.length from by omega]; exact hc_new _
  have uB := uA_ap (c := byA n f2) (Or.inl (fun _ z => by cases z)) uS
  obtain ⟨h23, r1, r2, r3, r4, r5, r6⟩ := c_59 (L := L) (xs := xs) (zf := zf) (w := w) (k := k + 7) (hc_up (c2 := byA n f2) eR1) (hc_up (c2 := byA n f2) eS) eB hn
  rw [lB, show 21 + (h.length + 9) = 30 + h.length from by omega, show 22 + (h.length + 9) = 31 + h.length from by omega, show 23 + (h.length + 9) = 32 + h.length from by omega] at r2
  obtain ⟨w', rfl⟩ : ∃ w', w = w' + 1 := ⟨w - 1, by omega⟩
  obtain ⟨h30, t1, t2, t3, t4, t5⟩ := ca_loop (L := L) (xs := xs) (zf := zf) (w := w' + 1) (k := k + 2) (by omega) (by omega) n 0 0 w' h23 vR0 _ _ _ (by omega) (by omega) (by omega) (by omega) r2 rfl
  obtain ⟨t6, t7⟩ := rP_frm r2 t2 t3 t5
  have l30 : h30.length = h.length + 12 := by omega
  have u30 := t7 (r6 uB)
  obtain ⟨h36, v1, v2, v3⟩ := c_90 (L := L) (xs := xs) (zf := zf) (w := w' + 1) (k := k + 9) (rd := 27 + h.length) (pg := 21 + h.length) (hc_new (h := h30) (.inr (8, ah_DV 8)))
  have k30 : 21 + h30.length = 33 + h.length := by omega
  rw [k30] at v1 v2 v3
  have l36 : h36.length = h.length + 13 := by rw [v3.2.1, List.length_append, l30]; rfl
  -- from h9 to the end only the reader changes
  have f1 : fr (fun z => z = 27 + h.length) h9 hx := by rw [← eX]; exact fr_app _ _
  have f2' : fr (fun z => z = 27 + h.length) hx hz := by rw [← eZ]; exact fr_app _ _
  have f3 : fr (fun z => z = 27 + h.length) h9 h36 := by
    refine fr_trans (fr_trans (fr_trans (fr_trans (fr_trans (fr_trans f1 f2' (fun _ _ e => e)) (fr_app (fun _ => False) (byA n f2)) (fun _ _ e => e.elim)) r3 (fun _ _ e => e)) t6 (fun z hz e => ?_)) (fr_app (fun _ => False) (.inr (8, ah_DV 8))) (fun _ _ e => e.elim)) v3.1 (fun z hz e => ?_)
    · have e' : z = 27 + h.length ∨ z = 30 + h.length ∨ z = 31 + h.length ∨ z = 32 + h.length := e
      show z = 27 + h.length
      omega
    · have e' : z = 33 + h.length := e
      omega
  have keep : ∀ z c, z ≠ 27 + h.length → hc h9 z = some c → hc h36 z = some c := fun z c hz e => fr_old f3 e hz
  have nl : ∀ l, l ≠ 27 + h.length → aL h9 l 5 0 [] → aL h36 l 5 0 [] := fun l hl e => aL_fr f3 hl (fun x => absurd rfl x) e
  have lr : ∀ z c, z ≠ 33 + h.length → hc h30 z = some c → hc h36 z = some c := fun z c hz e => st1_old v3 (hc_up e) hz
  refine ⟨h36, f2, (lxC (fun i => f2 i &&& 255) n n 0 0 (fun _ => 0) (fun _ => 0) (fun _ => 0)).1, (lxC (fun i => f2 i &&& 255) n n 0 0 (fun _ => 0) (fun _ => 0) (fun _ => 0)).2.1, (lxC (fun i => f2 i &&& 255) n n 0 0 (fun _ => 0) (fun _ => 0) (fun _ => 0)).2.2.1, (lxC (fun i => f2 i &&& 255) n n 0 0 (fun _ => 0) (fun _ => 0) (fun _ => 0)).2.2.2, ?_, q2, q3, rfl, ?_, ?_, ?_, ?_, ?_, ?_, ?_, ?_, ?_, l36, ?_, ?_⟩
  · unfold b43_0
    have e44 : dcN (dM L xs zf (w' + 1) (k + 10)) 44 (some (21 + h.length)) [.int (Int32.ofNat n)] (h ++ [.inr (4, ah_DV 4)]) = dM L xs zf (w' + 1) (k + 10) 44 [.ref (21 + h.length), .int (Int32.ofNat n)] (h ++ [.inr (4, ah_DV 4)]) := rfl
    have e59 : dcN (dM L xs zf (w' + 1) (k + 10)) 59 (some (27 + h.length)) [va_rf (some (28 + h.length))] (hz ++ [byA n f2]) = dM L xs zf (w' + 1) (k + 10) 59 [.ref (27 + h.length), .ref (28 + h.length)] (hz ++ [byA n f2]) := rfl
    have e90 : dcN (dM L xs zf (w' + 1) (k + 10)) 90 (some (33 + h.length)) [va_rf (some (27 + h.length)), va_rf (some (21 + h.length))] (h30 ++ [.inr (8, ah_DV 8)]) = dM L xs zf (w' + 1) (k + 10) 90 [.ref (33 + h.length), .ref (27 + h.length), .ref (21 + h.length)] (h30 ++ [.inr (8, ah_DV 8)]) := rfl
    have cp := hc_of s1.1 s1.2.2.2.2.2.2.1
    have cp15 := hc_of s15.1 s15.2.2.2.2.2.2.1
    have c62 : dM L xs zf (w' + 1) (k + 10) 62 [.ref (27 + h.length)] h23 = some (none, h30) := by
      rw [e62]
      exact t1
    have v10 : (dcV L xs (dM L xs zf (w' + 1) (k + 10)) 10 [1] (some p) [] (h ++ [.inr (4, ah_DV 4)])).bind dxI = some (Int32.ofNat n, h ++ [.inr (4, ah_DV 4)]) := by rw [hc_v cp (by decide), sb_len (k := k + 8) s1]; rfl
    have v48 : (dcV L xs (dM L xs zf (w' + 1) (k + 10)) 48 [1] (some p) [] hx).bind dxR = some (some (28 + h.length), hz ++ [byA n f2]) := by rw [hc_v cp15 (by decide), q1]; rfl
    have rd23 : hc h23 (27 + h.length) = some (.inr (6, [.ref (28 + h.length), .ref (30 + h.length), .ref (31 + h.length), .ref (32 + h.length), .int (vR0 4), .int (vR0 5), .int (vR0 6), .int (vR0 7), .int (vR0 8)])) := hc_of r2.1.1 r2.2.2.2.1
    rw [Option.bind_some, hc_gR (p := some p) B1 h0 (by decide), Option.bind_some, v10, Option.bind_some, e44, d1]
    show ((some h9).bind fun h9 => _) = _
    rw [Option.bind_some, show 21 + h9.length = 27 + h.length from by omega, eX, Option.bind_some, hc_gR (p := some p) B15 h0 (by decide), Option.bind_some, v48, Option.bind_some, e59, r1]
    show ((some h23).bind fun h23 => _) = _
    rw [Option.bind_some, hc_v rd23 (by decide), c62]
    show ((some h30).bind fun h30 => _) = _
    rw [Option.bind_some, Option.bind_some, k30, e90, v1]
    show ((some h36).bind fun h36 => _) = _
    rw [Option.bind_some, hc_v v2 (by decide)]
    rfl
  · intro m D E G hcn hcn2
    refine ⟨rP_ext (v := upd vR0 4 (Int32.ofNat (lxC (fun i => f2 i &&& 255) n n 0 0 (fun _ => 0) (fun _ => 0) (fun _ => 0)).1)) ?_ ?_, ⟨by show 21 ≤ 33 + h.length; omega, by show 33 + h.length ≠ 27 + h.length; omega, hc_at v2⟩, ?_⟩
    · obtain ⟨⟨p1, p2, p3, p4, p5, p6⟩, nd, hn', y1, ⟨x, y, y2⟩, y3, y4, y5, y6⟩ := t2
      exact ⟨⟨p1, p2, p3, p4, p5, p6⟩, nd, hn', hc_at (lr (27 + h.length) _ (by omega) (hc_of p1 y1)), ⟨x, y, hc_at (lr (28 + h.length) _ (by omega) (hc_of p2 y2))⟩, hc_at (lr (29 + h.length) _ (by omega) (hc_of p3 y3)), hc_at (lr (30 + h.length) _ (by omega) (hc_of p4 y4)), hc_at (lr (31 + h.length) _ (by omega) (hc_of p5 y5)), hc_at (lr (32 + h.length) _ (by omega) (hc_of p6 y6))⟩
    · intro j j4 j8
      have : j = 4 ∨ j = 5 ∨ j = 6 ∨ j = 7 ∨ j = 8 := by omega
      rcases this with e | e | e | e | e <;> subst e <;> rfl
    · show (Int32.ofNat (lxC (fun i => f2 i &&& 255) n n 0 0 (fun _ => 0) (fun _ => 0) (fun _ => 0)).1).toInt ≤ (n : Int)
      rw [of_int (by omega)]
      exact hcn
  · exact keep _ _ (by omega) d2
  · exact nl _ (by omega) d3
  · exact nl _ (by omega) d4
  · exact nl _ (by omega) d5
  · exact uA_st (hc_new (h := h30) (.inr (8, ah_DV 8))) (by decide) (by rw [k30]; exact v3) (uA_ap (Or.inl (fun _ z => by cases z)) u30)
  · exact keep _ _ (by omega) d6
  · exact keep _ _ (by omega) d7
  · exact fr_trans g9 f3 (fun z hz e => by have : z = 27 + h.length := e; omega)
  · rw [v3.2.2, zh_app, t4, r5, zh_app, yS]
    show zh h + 12 + 9 + 128 + 9 + 4 + n + 3 * (n + 1) + 2 = _
    rfl
  · intro d fs hd e
    have lt := hc_lt e
    have k0 := keep _ _ (by omega) d2
    obtain ⟨_, k1, _⟩ := nl _ (by omega) d3
    obtain ⟨_, k2, _⟩ := nl _ (by omega) d4
    obtain ⟨_, k3, _⟩ := nl _ (by omega) d5
    have k4 := keep _ _ (by omega) d6
    have k5 := keep _ _ (by omega) d7
    obtain ⟨⟨p1, p2, p3, p4, p5, p6⟩, nd, hn', y1, ⟨x, y, y2⟩, y3, y4, y5, y6⟩ := t2
    have k6 := lr _ _ (by omega) (hc_of p1 y1)
    have k7 := lr _ _ (by omega) (hc_of p2 y2)
    have k8 := lr _ _ (by omega) (hc_of p3 y3)
    have k9 := lr _ _ (by omega) (hc_of p4 y4)
    have k10 := lr _ _ (by omega) (hc_of p5 y5)
    have k11 := lr _ _ (by omega) (hc_of p6 y6)
    have cs : d = 21 + h.length ∨ d = 22 + h.length ∨ d = 23 + h.length ∨ d = 24 + h.length ∨ d = 25 + h.length ∨ d = 26 + h.length ∨ d = 27 + h.length ∨ d = 28 + h.length ∨ d = 29 + h.length ∨ d = 30 + h.length ∨ d = 31 + h.length ∨ d = 32 + h.length ∨ d = 33 + h.length := by omega
    rcases cs with q | q | q | q | q | q | q | q | q | q | q | q | q <;> subst q
    · rw [k0] at e; cases e
    · rw [k1] at e; cases e
    · rw [k2] at e; cases e
    · rw [k3] at e; cases e
    · rw [k4] at e; cases e
    · rw [k5] at e; cases e
    · rw [k6] at e; cases e
    · rw [k7] at e; cases e
    · rw [k8] at e; cases e
    · rw [k9] at e; cases e
    · rw [k10] at e; cases e
    · rw [k11] at e; cases e
    · rw [v2] at e; cases e
end BH
