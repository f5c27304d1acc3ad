/-! BOTH CHECK: the links, as the chain wants them. -/
section JLK
variable {L : Nat} {xs : Nat → Int32} {zf : Value} {w C Sc M Pl Ph LO HI nk m lv n p q i d lo hi k k2 z z2 W ke kr ke2 kr2 K l τ px pl ph pl2 ph2 xc lo2 hi2 hl mi mr q0 q1 pr rr : Nat} {cx : Nat → Nat} {hB h h1 h2 : rm_H} {s0 s s1 s2 : rS} {pt vr gn gn1 a b a1 b1 x y rc t v : Int32} {mv : Value} {ds kl ml es ns ts ts2 qs : List Nat} {G : List scN} {u u1 u2 : Nat → Nat} {A B A1 B1 : Nat → Int32} {c : Int64} {X : scN} {f : Nat → Int64} {sl ty : Nat → Int32} {sw : Bool} {t' r' : Int32} {h' : rm_H} {s' : rS} {cst : Nat}
theorem JX_le (e : JX L xs zf w cx C Sc M pt vr mv hB s0 nk m pl2 ph2 LO HI z mi mr p n lo hi ke kr) (h1 : pl ≤ pl2) (h2 : ph2 ≤ ph) (hz : z ≤ z2) (hk : ke ≤ ke2) (hk2 : kr ≤ kr2) : JX L xs zf w cx C Sc M pt vr mv hB s0 nk m pl ph LO HI z2 mi mr p n lo hi ke2 kr2 := by
  intro j j2 h s ds G lv gn b u A B ck hlz fv p53 hz
  obtain ⟨t, r, h', s', q1, q2, gn', a', b', u', A', B', o1, o2, o3⟩ := e (ke2 - ke + j) (kr2 - kr + j2) h s ds G lv gn b u A B ck (by omega) fv p53 hz
  rw [show ke + (ke2 - ke + j) = ke2 + j from by omega] at q1
  rw [show kr + (kr2 - kr + j2) = kr2 + j2 from by omega] at q2
  exact ⟨t, r, h', s', q1, q2, gn', a', b', u', A', B', o1, wF_mono o2 h1 h2, o3⟩
theorem JV_le (e : JV L xs zf w cx C Sc M pt vr mv hB s0 nk m pl2 ph2 LO HI z p n lo hi ke kr) (h1 : pl ≤ pl2) (h2 : ph2 ≤ ph) (hz : z ≤ z2) (hk : ke ≤ ke2) (hk2 : kr ≤ kr2) : JV L xs zf w cx C Sc M pt vr mv hB s0 nk m pl ph LO HI z2 p n lo hi ke2 kr2 := by
  intro j j2 h s ds G lv gn b u A B ck hlz fv p53 hz
  obtain ⟨t, r, h', s', q1, q2, gn', a', b', u', A', B', o1, o2, o3⟩ := e (ke2 - ke + j) (kr2 - kr + j2) h s ds G lv gn b u A B ck (by omega) fv p53 hz
  rw [show ke + (ke2 - ke + j) = ke2 + j from by omega] at q1
  rw [show kr + (kr2 - kr + j2) = kr2 + j2 from by omega] at q2
  exact ⟨t, r, h', s', q1, q2, gn', a', b', u', A', B', o1, wF_mono o2 h1 h2, o3⟩
theorem LXO_ts (hW : ¬ (W = 11 ∨ W = 12)) (e : LXO L xs cx C Sc M pt vr mv hB s0 nk m Pl Ph LO HI lo hi n W l τ ts lv G ds gn u A B h s cst t' r' h' s') : LXO L xs cx C Sc M pt vr mv hB s0 nk m Pl Ph LO HI lo hi n W l τ ts2 lv G ds gn u A B h s cst t' r' h' s' := by
  obtain ⟨gn', a', b', u', A', B', o1, o2, o3, o4, o5, o6, o7⟩ := e
  refine ⟨gn', a', b', u', A', B', o1, o2, o3, o4, o5, o6, fun z => ?_⟩
  obtain ⟨p1, p2, τ', p3, p4, p5, p6, p7, p8⟩ := o7 z
  exact ⟨p1, p2, τ', p3, p4, p5, p6, p7, fun SL AA BB f y1 y2 y3 g00 ga a00 a0 dg tu => p8 SL AA BB f y1 y2 y3 g00 ga a00 a0 ⟨dg.1, fun z => absurd z hW⟩ tu⟩
/-- a field -/
theorem lk_10 (j0 : JE L xs cx hB s0 nk kl ml) (e0 : fd hB 12 p 0 = some (.int 10)) (e6 : fd hB 12 p 6 = some (.ref px)) (ex : fd hB 12 px 1 = some (.int (s0.2.1 50 l))) (e2 : fd hB 12 p 2 = some (.ref q)) (hq : nS L xs hB q (s0.2.2 56 n)) (e3 : fd hB 12 p 3 = some (.int (s0.2.1 51 n))) (r44 : s0.2.1 44 n = 10) (r45 : s0.2.1 45 n = Int32.ofNat l) (hl : 1 ≤ l ∧ l < 4400) (hn : n < 4400) (d3 : lo ≤ n) (hw : 200 ≤ w) (hk : 8 ≤ ke) (hk2 : 5 ≤ kr) : LK L xs zf w cx C Sc M pt vr mv hB s0 nk m pl ph LO HI z p n 10 l lo (n + 1) es ke kr := by
  intro j j2 h s ds G lv gn b u A B τ ns ts ck hlz fv p53 hz vt e61 e60 _
  obtain ⟨t', r', h', s', q1, q2, q3⟩ := j_203 (Pl := pl) (Ph := ph) (LO := LO) (HI := HI) (hi := n + 1) (zf := zf) (w := w) j0 e0 e6 ex e2 hq e3 r44 r45 hl hn (by omega) d3 hw (ke - 8 + j) (kr - 5 + j2) ck hz vt e61
  rw [show 8 + (ke - 8 + j) = ke + j from by omega] at q1
  rw [show 5 + (kr - 5 + j2) = kr + j2 from by omega] at q2
  exact ⟨t', r', h', s', q1, q2, LXO_ts (by omega) q3⟩
/-- a call -/
theorem lk_11 {y1 : Int32} (j0 : JE L xs cx hB s0 nk kl ml) (e0 : fd hB 12 p 0 = some (.int 11)) (e1 : fd hB 12 p 1 = some (.int y1)) (e6 : fd hB 12 p 6 = some (.ref px)) (ex : fd hB 12 px 1 = some (.int (s0.2.1 50 l))) (ex0 : fd hB 12 px 0 = some (.int (s0.2.1 44 l))) (e2 : fd hB 12 p 2 = some (.ref q)) (hq : nS L xs hB q (s0.2.2 56 n)) (e3 : fd hB 12 p 3 = some (.int (s0.2.1 51 n))) (hp : pts hB q0 q1 p es) (hl6 : es.length ≤ 6) (r52 : s0.2.1 52 n = Int32.ofNat es.length) (r44 : s0.2.1 44 n = 11) (r46 : s0.2.1 46 n = Int32.ofNat l) (hl : 1 ≤ l ∧ l < 4400) (hn : n < 4400) (d3 : lo ≤ n) (hw : 200 ≤ w) (hk : 8 ≤ ke) (hk2 : 6 ≤ kr) : LK L xs zf w cx C Sc M pt vr mv hB s0 nk m pl ph LO HI z p n 11 l lo (n + 1) es ke kr := by
  intro j j2 h s ds G lv gn b u A B τ ns ts ck hlz fv p53 hz vt e61 e60 aq
  obtain ⟨ch, aq⟩ := aq (Or.inl rfl)
  obtain ⟨t', r', h', s', q1, q2, q3⟩ := j_204 (Pl := pl) (Ph := ph) (LO := LO) (HI := HI) (hi := n + 1) (zf := zf) (w := w) j0 e0 e1 e6 ex ex0 e2 hq e3 hp hl6 r52 ch r44 r46 hl hn (by omega) d3 hw (ke - 8 + j) (kr - 6 + j2) ck hz vt e60 e61 aq
  rw [show 8 + (ke - 8 + j) = ke + j from by omega] at q1
  rw [show 6 + (kr - 6 + j2) = kr + j2 from by omega] at q2
  exact ⟨t', r', h', s', q1, q2, q3⟩
/-- a message -/
theorem lk_12 {y1 : Int32} (j0 : JE L xs cx hB s0 nk kl ml) (e0 : fd hB 12 p 0 = some (.int 12)) (e1 : fd hB 12 p 1 = some (.int y1)) (e6 : fd hB 12 p 6 = some (.ref px)) (ex : fd hB 12 px 1 = some (.int (s0.2.1 50 l))) (e2 : fd hB 12 p 2 = some (.ref q)) (hq : nS L xs hB q (s0.2.2 56 n)) (e3 : fd hB 12 p 3 = some (.int (s0.2.1 51 n))) (hp : pts hB q0 q1 p es) (hl6 : es.length ≤ 6) (r52 : s0.2.1 52 n = Int32.ofNat es.length) (r44 : s0.2.1 44 n = 12) (r46 : s0.2.1 46 n = Int32.ofNat l) (hl : 1 ≤ l ∧ l < 4400) (hn : n < 4400) (d3 : lo ≤ n) (hw : 200 ≤ w) (hk : 8 ≤ ke) (hk2 : 6 ≤ kr) : LK L xs zf w cx C Sc M pt vr mv hB s0 nk m pl ph LO HI z p n 12 l lo (n + 1) es ke kr := by
  intro j j2 h s ds G lv gn b u A B τ ns ts ck hlz fv p53 hz vt e61 e60 aq
  obtain ⟨ch, aq⟩ := aq (Or.inr rfl)
  obtain ⟨t', r', h', s', q1, q2, q3⟩ := j_207 (Pl := pl) (Ph := ph) (LO := LO) (HI := HI) (hi := n + 1) (zf := zf) (w := w) j0 e0 e1 e6 ex e2 hq e3 hp hl6 r52 ch r44 r46 hl hn (by omega) d3 hw (ke - 8 + j) (kr - 6 + j2) ck hz vt aq
  rw [show 8 + (ke - 8 + j) = ke + j from by omega] at q1
  rw [show 6 + (kr - 6 + j2) = kr + j2 from by omega] at q2
  exact ⟨t', r', h', s', q1, q2, q3⟩
/-- an operator -/
theorem lk_13 {op : Int32} (IH : JX L xs zf w cx C Sc M pt vr mv hB s0 nk m pl ph LO HI z 172 339 pr rr lo2 hi2 ke kr) (e0 : fd hB 12 p 0 = some (.int 13)) (e6 : fd hB 12 p 6 = some (.ref px)) (e8 : fd hB 12 p 8 = some (.ref pr)) (ex : fd hB 12 px 1 = some (.int (s0.2.1 50 l))) (er : fd hB 12 pr 1 = some (.int (s0.2.1 50 rr))) (e4 : fd hB 12 p 4 = some (.int op)) (ho : opS op (s0.2.1 54 n)) (r44 : s0.2.1 44 n = 13) (r45 : s0.2.1 45 n = Int32.ofNat l) (r46 : s0.2.1 46 n = Int32.ofNat rr) (hl : 1 ≤ l ∧ l < 4400) (hr : 1 ≤ rr ∧ rr < 4400) (hn : n < 4400) (hk : 3 ≤ ke) (hk2 : 3 ≤ kr) (d1 : n < lo2) (d2 : hi2 ≤ hi) (d3 : lo ≤ n) (d4 : lo2 < hi2) (hke : ke + 2 ≤ ke2) (hkr : kr + 1 ≤ kr2) : LK L xs zf w cx C Sc M pt vr mv hB s0 nk m pl ph LO HI z p n 13 l lo hi es ke2 kr2 := by
  intro j j2 h s ds G lv gn b u A B τ ns ts ck hlz fv p53 hz vt e61 e60 _
  obtain ⟨t', r', h', s', q1, q2, q3⟩ := j_208 IH e0 e6 e8 ex er e4 ho r44 r45 r46 hl hr hn hk hk2 d1 d2 d3 d4 (ke2 - (ke + 2) + j) (kr2 - (kr + 1) + j2) ck hlz fv p53 hz vt
  rw [show ke + 2 + (ke2 - (ke + 2) + j) = ke2 + j from by omega] at q1
  rw [show kr + 1 + (kr2 - (kr + 1) + j2) = kr2 + j2 from by omega] at q2
  exact ⟨t', r', h', s', q1, q2, LXO_ts (by omega) q3⟩
/-- arguments -/
theorem ao_of {y1 : Int32} (j0 : JE L xs cx hB s0 nk kl ml) (bj : bJ L xs hB s0 nk kl M m) (hp : pts hB q0 q1 p es) (e1 : fd hB 12 p 1 = some (.int y1)) (hl : es.length ≤ 6) (hk : 4 ≤ ke) (hn : n < 4400) (hHI : hi ≤ HI) (hLO : LO ≤ lo) (hlo : lo ≤ hi) (hw : 200 ≤ w) (sqe : sq s0 (AR L xs zf w cx C Sc M pt vr mv hB s0 nk m LO HI z ke kr kl) hi ph n p lo pl es (s0.2.1 45 n)) (hke : ke + 1 ≤ ke2) (hkr : kr + 1 ≤ kr2) : AO L xs zf w cx C Sc M pt vr mv hB s0 nk m pl ph LO HI z p n lo hi es ke2 kr2 := by
  intro j j2 h s ds G lv gn b u A B ck hlz fv p53 hz
  obtain ⟨h', s', q1, q2, q3⟩ := j_173 (ke2 - (ke + 1) + j) (kr2 - (kr + 1) + j2) j0 bj hp e1 hl hk hn hHI hLO hlo hlz hw sqe ck fv p53 hz
  rw [show ke + 1 + (ke2 - (ke + 1) + j) = ke2 + j from by omega] at q1
  rw [show kr + 1 + (kr2 - (kr + 1) + j2) = kr2 + j2 from by omega] at q2
  exact ⟨h', s', q1, q2, q3⟩
/-- behind a fault, the links -/
theorem zu_10 {y3 yx : Int32} {j : Nat} (ev : EV L xs cx C Sc M pt vr mv ds f sl ty rc a b kl hB h u) (e0 : fd hB 12 p 0 = some (.int (Int32.ofNat 10))) (e6 : fd hB 12 p 6 = some (.ref px)) (ex : fd hB 12 px 1 = some (.int yx)) (e2 : fd hB 12 p 2 = some (.ref q)) (hq : nS L xs hB q c) (e3 : fd hB 12 p 3 = some (.int y3)) (hk : 8 ≤ ke) (hz : u 2 ≤ 9000) (hw : 200 ≤ w) (t : Int32) : ∃ t' h' u', (dcV L xs (dM L xs zf w (ke + j)) 202 [13] (some C) [va_rf (some p), .int t] h).bind dxI = some (t', h') ∧ ZR L xs cx C Sc M pl ph pt vr mv ds f sl ty rc a b h u 1 h' u' := by
  have nb := ev.2.2.2.1
  obtain ⟨t', h', u', m1, m2⟩ := zk_203 (pl := pl) (ph := ph) (k := ke - 8 + j) (zf := zf) (w := w) ev.1 ev.2.2.2.2 hz ev.2.1 (nb.1 _ _ _ (by decide) e6) (nb.1 _ _ _ (by decide) ex) (nb.1 _ _ _ (by decide) e2) (nb.2.2.1 _ _ hq) (nb.1 _ _ _ (by decide) e3) t hw
  refine ⟨t', h', u', ?_, m2⟩
  rw [show ke + j = ke - 8 + j + 7 + 1 from by omega]
  exact zx_202 (Or.inl ⟨rfl, rfl⟩) ev e0 m1
theorem zu_11 {y1 y3 yx y0 : Int32} {j : Nat} (ev : EV L xs cx C Sc M pt vr mv ds f sl ty rc a b kl hB h u) (e0 : fd hB 12 p 0 = some (.int (Int32.ofNat 11))) (e1 : fd hB 12 p 1 = some (.int y1)) (e6 : fd hB 12 p 6 = some (.ref px)) (ex0 : fd hB 12 px 0 = some (.int y0)) (ex : fd hB 12 px 1 = some (.int yx)) (e2 : fd hB 12 p 2 = some (.ref q)) (hq : nS L xs hB q c) (e3 : fd hB 12 p 3 = some (.int y3)) (hp : pts hB q0 q1 p es) (hl6 : es.length ≤ 6) (at' : aTy h es) (hk : 8 ≤ ke) (hz : u 2 ≤ 9000) (hw : 200 ≤ w) (t : Int32) : ∃ t' h' u', (dcV L xs (dM L xs zf w (ke + j)) 202 [13] (some C) [va_rf (some p), .int t] h).bind dxI = some (t', h') ∧ ZR L xs cx C Sc M pl ph pt vr mv ds f sl ty rc a b h u 1 h' u' := by
  have nb := ev.2.2.2.1
  have hp' : pts h q0 q1 p es := by
    rcases hp with ⟨z1, z2⟩ | ⟨l, ar, cap, z1, z2, z3⟩
    · exact Or.inl ⟨nb.1 _ _ _ (by decide) z1, z2⟩
    · exact Or.inr ⟨l, ar, cap, nb.1 _ _ _ (by decide) z1, nb.2.1 _ _ _ _ z2, z3⟩
  obtain ⟨t', h', u', m1, m2⟩ := zk_204 (pl := pl) (ph := ph) (k := ke - 8 + j) (zf := zf) (w := w) ev.1 ev.2.2.2.2 hz ev.2.1 (nb.1 _ _ _ (by decide) e1) (nb.1 _ _ _ (by decide) e6) (nb.1 _ _ _ (by decide) ex0) (nb.1 _ _ _ (by decide) ex) (nb.1 _ _ _ (by decide) e2) (nb.2.2.1 _ _ hq) (nb.1 _ _ _ (by decide) e3) hp' hl6 at' t hw
  refine ⟨t', h', u', ?_, m2⟩
  rw [show ke + j = ke - 8 + j + 7 + 1 from by omega]
  exact zx_202 (Or.inr (Or.inl ⟨rfl, rfl⟩)) ev e0 m1
theorem zu_12 {y1 y3 yx : Int32} {j : Nat} (ev : EV L xs cx C Sc M pt vr mv ds f sl ty rc a b kl hB h u) (e0 : fd hB 12 p 0 = some (.int (Int32.ofNat 12))) (e1 : fd hB 12 p 1 = some (.int y1)) (e6 : fd hB 12 p 6 = some (.ref px)) (ex : fd hB 12 px 1 = some (.int yx)) (e2 : fd hB 12 p 2 = some (.ref q)) (hq : nS L xs hB q c) (e3 : fd hB 12 p 3 = some (.int y3)) (hp : pts hB q0 q1 p es) (hl6 : es.length ≤ 6) (at' : aTy h es) (hk : 8 ≤ ke) (hz : u 2 ≤ 9000) (hw : 200 ≤ w) (t : Int32) : ∃ t' h' u', (dcV L xs (dM L xs zf w (ke + j)) 202 [13] (some C) [va_rf (some p), .int t] h).bind dxI = some (t', h') ∧ ZR L xs cx C Sc M pl ph pt vr mv ds f sl ty rc a b h u 1 h' u' := by
  have nb := ev.2.2.2.1
  have hp' : pts h q0 q1 p es := by
    rcases hp with ⟨z1, z2⟩ | ⟨l, ar, cap, z1, z2, z3⟩
    · exact Or.inl ⟨nb.1 _ _ _ (by decide) z1, z2⟩
    · exact Or.inr ⟨l, ar, cap, nb.1 _ _ _ (by decide) z1, nb.2.1 _ _ _ _ z2, z3⟩
  obtain ⟨t', h', u', m1, m2⟩ := zk_207 (pl := pl) (ph := ph) (k := ke - 8 + j) (zf := zf) (w := w) ev.1 ev.2.2.2.2 hz ev.2.1 (nb.1 _ _ _ (by decide) e1) (nb.1 _ _ _ (by decide) e6) (nb.1 _ _ _ (by decide) ex) (nb.1 _ _ _ (by decide) e2) (nb.2.2.1 _ _ hq) (nb.1 _ _ _ (by decide) e3) hp' hl6 at' t hw
  refine ⟨t', h', u', ?_, m2⟩
  rw [show ke + j = ke - 8 + j + 7 + 1 from by omega]
  exact zx_202 (Or.inr (Or.inr (Or.inl ⟨rfl, rfl⟩))) ev e0 m1
theorem zu_13 {s1 s2 op : Int32} {cn j : Nat} (IH : ZX L xs zf w cx C Sc M pl ph pt vr mv ds f sl ty rc a b kl hB 172 pr cn ke) (ev : EV L xs cx C Sc M pt vr mv ds f sl ty rc a b kl hB h u) (e0 : fd hB 12 p 0 = some (.int (Int32.ofNat 13))) (e6 : fd hB 12 p 6 = some (.ref px)) (ea : fd hB 12 px 1 = some (.int s1)) (e8 : fd hB 12 p 8 = some (.ref pr)) (er : fd hB 12 pr 1 = some (.int s2)) (e4 : fd hB 12 p 4 = some (.int op)) (hk : 3 ≤ ke) (hke : ke + 2 ≤ ke2) (hz : u 2 + (cn + 1) ≤ 9000) (t : Int32) : ∃ t' h' u', (dcV L xs (dM L xs zf w (ke2 + j)) 202 [13] (some C) [va_rf (some p), .int t] h).bind dxI = some (t', h') ∧ ZR L xs cx C Sc M pl ph pt vr mv ds f sl ty rc a b h u (cn + 1) h' u' := by
  obtain ⟨t', h', u', m1, m2⟩ := zx_208 IH e6 ea e8 er e4 hk (ke2 - (ke + 2) + j) ev hz t
  refine ⟨t', h', u', ?_, m2⟩
  rw [show ke2 + j = ke + 1 + (ke2 - (ke + 2) + j) + 1 from by omega]
  exact zx_202 (Or.inr (Or.inr (Or.inr ⟨rfl, rfl⟩))) ev e0 m1
end JLK
