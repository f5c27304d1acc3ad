/-! THE CLASS'S CHECKER: kinds, fields and methods by number and by name. -/
/-- a field of a Kind: names f, slots sl, types ty -/
def fLs (L : Nat) (xs : Nat → Int32) (h : rm_H) (l ar cap : Nat) (ds : List Nat) (f : Nat → Int64) (sl ty : Nat → Int32) : Prop := aL h l ar cap ds ∧ ds.length ≤ 100 ∧ ∀ i d, ds[i]? = some d → dSn L xs h d (f i) (sl i) (ty i)
/-- a Method as it is called: sort, number, CAP, parameters' types, result's type (none: no result), takes what can be sent, harmless -/
def mOk (h : rm_H) (M : Nat) (so nb cp : Int32) (np : Nat) (pty : Nat → Int32) (res : Option Int32) (tk hm : Int32) : Prop := fd h 11 M 0 = some (.int so) ∧ fd h 11 M 2 = some (.int nb) ∧ fd h 11 M 6 = some (.int cp) ∧ (∃ l ar cap ps, fd h 11 M 5 = some (.ref l) ∧ aL h l ar cap ps ∧ ps.length = np ∧ np ≤ 6 ∧ ∀ i d, ps[i]? = some d → fd h 10 d 7 = some (.int (pty i))) ∧ ((res = none ∧ fd h 11 M 8 = some .null) ∨ ∃ d x, res = some x ∧ fd h 11 M 8 = some (.ref d) ∧ fd h 10 d 7 = some (.int x)) ∧ fd h 11 M 12 = some (.int tk) ∧ fd h 11 M 13 = some (.int hm)
/-- a Kind as it is used -/
def kOk (L : Nat) (xs : Nat → Int32) (h : rm_H) (K : Nat) : Prop := ∃ ac nb, fd h 9 K 2 = some (.int ac) ∧ fd h 9 K 3 = some (.int nb) ∧ (∃ fl ar cap fs f sl ty, fd h 9 K 4 = some (.ref fl) ∧ fLs L xs h fl ar cap fs f sl ty) ∧ (∃ ml ar cap ms f so g mb, fd h 9 K 5 = some (.ref ml) ∧ mL L xs h ml ar cap ms f so g mb ∧ ∀ M ∈ ms, ∃ so nb cp np pty res tk hm, mOk h M so nb cp np pty res tk hm) ∧ ∃ mk so nb cp np pty res tk hm, fd h 9 K 6 = some (.ref mk) ∧ mOk h mk so nb cp np pty res tk hm
/-- what stands while bodies are checked -/
def GE (L : Nat) (xs : Nat → Int32) (cx : Nat → Nat) (h : rm_H) (kl : List Nat) : Prop := (∃ ar cap, aL h (cx 9) ar cap kl) ∧ kl.length ≤ 8 ∧ ∀ K ∈ kl, kOk L xs h K
section GE
variable {L : Nat} {xs : Nat → Int32} {zf : Value} {w k C Sc M pl ph K : Nat} {cx : Nat → Nat} {h h1 h2 : rm_H} {pt vr gn rc a b x y : Int32} {mv : Value} {ds kl : List Nat} {f : Nat → Int64} {sl ty : Nat → Int32} {u u1 u2 : Nat → Nat} {A B : Nat → Int32}
theorem wF_f {ci p j : Nat} {v : Value} (kh : KH L xs cx C Sc M pt vr mv h ds f sl ty gn rc a b u A B) (e : wF cx C Sc pl ph u h h1) (hci : ci ≠ 12 ∧ ci ≠ 4 ∧ ci ≠ 13) (ev : fd h ci p j = some v) : fd h1 ci p j = some v := by
  obtain ⟨fs, e1, e2⟩ := fd_c ev
  rw [fd_of (wF_o kh e e1 hci)]
  exact e2
theorem wF_dSn {d : Nat} {c : Int64} {s0 x0 : Int32} (kh : KH L xs cx C Sc M pt vr mv h ds f sl ty gn rc a b u A B) (e : wF cx C Sc pl ph u h h1) (ev : dSn L xs h d c s0 x0) : dSn L xs h1 d c s0 x0 := dSn_o e.1 (fun fs z => wF_o kh e z (by decide)) ev
theorem mOk_w {so nb cp tk hm : Int32} {np : Nat} {pty : Nat → Int32} {res : Option Int32} {M' : Nat} (kh : KH L xs cx C Sc M pt vr mv h ds f sl ty gn rc a b u A B) (e : wF cx C Sc pl ph u h h1) (ev : mOk h M' so nb cp np pty res tk hm) : mOk h1 M' so nb cp np pty res tk hm := by
  obtain ⟨a1, a2, a3, ⟨l, ar, cap, ps, a4, a5, a6, a7, a8⟩, a9, a10, a11⟩ := ev
  refine ⟨wF_f kh e (by decide) a1, wF_f kh e (by decide) a2, wF_f kh e (by decide) a3, ⟨l, ar, cap, ps, wF_f kh e (by decide) a4, wF_aL kh e a5, a6, a7, fun i d hd => wF_f kh e (by decide) (a8 i d hd)⟩, ?_, wF_f kh e (by decide) a10, wF_f kh e (by decide) a11⟩
  rcases a9 with ⟨z1, z2⟩ | ⟨d, x, z1, z2, z3⟩
  · exact Or.inl ⟨z1, wF_f kh e (by decide) z2⟩
  · exact Or.inr ⟨d, x, z1, wF_f kh e (by decide) z2, wF_f kh e (by decide) z3⟩
theorem kOk_w (kh : KH L xs cx C Sc M pt vr mv h ds f sl ty gn rc a b u A B) (e : wF cx C Sc pl ph u h h1) (ev : kOk L xs h K) : kOk L xs h1 K := by
  obtain ⟨ac, nb, a1, a2, ⟨fl, ar, cap, fs, ff, fsl, fty, a3, a4, a5, a6⟩, ⟨ml, ar2, cap2, ms, mf, so, g, mb, b1, ⟨b2, b3, b4, b5⟩, b6⟩, mk, so', nb', cp, np, pty, res, tk, hm, c1, c2⟩ := ev
  refine ⟨ac, nb, wF_f kh e (by decide) a1, wF_f kh e (by decide) a2, ⟨fl, ar, cap, fs, ff, fsl, fty, wF_f kh e (by decide) a3, wF_aL kh e a4, a5, fun i d hd => wF_dSn kh e (a6 i d hd)⟩, ⟨ml, ar2, cap2, ms, mf, so, g, mb, wF_f kh e (by decide) b1, ⟨wF_aL kh e b2, b3, b4, fun i d hd => ?_⟩, fun M' hM' => ?_⟩, mk, so', nb', cp, np, pty, res, tk, hm, wF_f kh e (by decide) c1, mOk_w kh e c2⟩
  · obtain ⟨⟨nq, z1, z2⟩, z3, z4, z5⟩ := b5 i d hd
    exact ⟨⟨nq, wF_f kh e (by decide) z1, nS_fr e.1 z2⟩, wF_f kh e (by decide) z3, wF_f kh e (by decide) z4, wF_f kh e (by decide) z5⟩
  · obtain ⟨so, nb, cp, np, pty, res, tk, hm, z⟩ := b6 M' hM'
    exact ⟨so, nb, cp, np, pty, res, tk, hm, mOk_w kh e z⟩
theorem GE_w (kh : KH L xs cx C Sc M pt vr mv h ds f sl ty gn rc a b u A B) (e : wF cx C Sc pl ph u h h1) (ev : GE L xs cx h kl) : GE L xs cx h1 kl := by
  obtain ⟨⟨ar, cap, e1⟩, e2, e3⟩ := ev
  exact ⟨⟨ar, cap, wF_aL kh e e1⟩, e2, fun K hK => kOk_w kh e (e3 K hK)⟩
/-- the Kind with a number -/
def kNo (kl : List Nat) (x : Int32) : Option Nat := if x.toInt < 0 then none else kl[x.toInt.toNat]?
theorem ck_kind (kh : KH L xs cx C Sc M pt vr mv h ds f sl ty gn rc a b u A B) (ge : GE L xs cx h kl) (x : Int32) : (dcV L xs (dM L xs zf w (k + 4)) 194 [4] (some (cx 8)) [.int x] h).bind dxR = some (kNo kl x, h) := by
  obtain ⟨⟨ar, cap, e1⟩, e2, e3⟩ := ge
  rw [hc_v kh.2.1 (by decide), e194]
  show (b194_0 L xs zf (dM L xs zf w (k + 3)) w (some (cx 8)) x h).bind dxR = _
  have g1 : dgR L xs h 1 [4] (some (cx 8)) = some (some (cx 9)) := hc_gR (p := some (cx 9)) kh.2.1 rfl (by decide)
  have sz : (dcV L xs (dM L xs zf w (k + 3)) 101 [5] (some (cx 9)) [] h).bind dxI = some (Int32.ofNat kl.length, h) := by
    rw [al_v e1, al_size e1]
    rfl
  refine bsq (a := (some (va_rf (kNo kl x)), h)) ?_ (by cases kNo kl x <;> rfl)
  unfold b194_0 kNo
  have lt0 : mx_f1 .lt x = decide (x.toInt < 0) := f1_lt x
  rw [lt0]
  by_cases c1 : x.toInt < 0
  · rw [if_pos (decide_eq_true c1), if_pos c1]
    rfl
  · rw [if_neg (fun z => c1 (of_decide_eq_true z)), if_neg c1]
    have ex : x = Int32.ofNat x.toInt.toNat := by
      apply i32_of
      have := Int32.toInt_lt x
      by_cases q : x.toInt.toNat < 100000
      · rw [of_int (by omega)]
        omega
      · have hb : x.toInt = ((x.toInt.toNat : Nat) : Int) := by omega
        rw [show Int32.ofNat x.toInt.toNat = Int32.ofInt ((x.toInt.toNat : Nat) : Int) from rfl, ← hb, Int32.ofInt_toInt]
    refine bsq g1 (bsq sz ?_)
    dsimp only
    rw [f2_lt, of_int (show kl.length ≤ 100000000 by omega)]
    by_cases c2 : x.toInt < (kl.length : Int)
    · obtain ⟨K, hK⟩ : ∃ K, kl[x.toInt.toNat]? = some K := ⟨kl[x.toInt.toNat]'(by omega), List.getElem?_eq_getElem (by omega)⟩
      have gt : (dcV L xs (dM L xs zf w (k + 3)) 146 [5] (some (cx 9)) [.int x] h).bind dxR = some (some K, h) := by
        have q := al_get (L := L) (xs := xs) (zf := zf) (w := w) (k := k) e1 x.toInt.toNat hK
        rw [← ex] at q
        rw [al_v e1, q]
        rfl
      obtain ⟨ac, nb, q1, _⟩ := e3 K (List.mem_of_getElem? hK)
      obtain ⟨fs, q2, _⟩ := fd_c q1
      rw [if_pos (decide_eq_true c2), hK]
      exact bsq g1 (bsq gt (inq (by rw [ck_of q2]; decide) rfl))
    · rw [if_neg (fun z => c2 (of_decide_eq_true z)), List.getElem?_eq_none (by omega)]
      rfl
/-- the field with a name -/
theorem ck_field {l ar cap q : Nat} {fs : List Nat} {c : Int64} (hK : fd h 9 K 4 = some (.ref l)) (e : fLs L xs h l ar cap fs f sl ty) (hq : nS L xs h q c) (hw : 200 ≤ w) : (dcV L xs (dM L xs zf w (k + 4)) 195 [9] (some K) [va_rf (some q)] h).bind dxR = some (kO fs (kF f c fs.length 0), h) := by
  obtain ⟨e9, l100, e5⟩ := e
  have sz : (dcV L xs (dM L xs zf w (k + 3)) 101 [5] (some l) [] h).bind dxI = some (Int32.ofNat fs.length, h) := by
    rw [al_v e9, al_size e9]
    rfl
  have g4 : dgR L xs h 4 [9] (some K) = some (some l) := fd_R (o := some l) hK (by decide)
  have lp : ∀ (m i N : Nat), i + m = fs.length → m < N → b195_2 L xs zf (dM L xs zf w (k + 3)) w N (some K) (some q) (Int32.ofNat i) h = some (some (va_rf (kO fs (kF f c m i))), h) := by
    intro m
    induction m with
    | zero =>
      intro i N e1 hN
      obtain ⟨N, rfl⟩ : ∃ M, N = M + 1 := ⟨N - 1, by omega⟩
      rw [b195_2]
      refine bse g4 (bse sz (ift ?_ rfl))
      show mx_f2 .ge (Int32.ofNat i) (Int32.ofNat fs.length) = true
      rw [f2_ge, of_int (by omega), of_int (by omega)]
      simp
      omega
    | succ m ih =>
      intro i N e1 hN
      obtain ⟨N, rfl⟩ : ∃ M, N = M + 1 := ⟨N - 1, by omega⟩
      obtain ⟨d, hd⟩ : ∃ d, fs[i]? = some d := ⟨fs[i]'(by omega), List.getElem?_eq_getElem (by omega)⟩
      obtain ⟨⟨nq, n1, n2⟩, _⟩ := e5 i d hd
      obtain ⟨fsd, n3, _⟩ := fd_c n1
      have gt : (dcV L xs (dM L xs zf w (k + 3)) 146 [5] (some l) [.int (Int32.ofNat i)] h).bind dxR = some (some d, h) := by
        rw [al_v e9, al_get e9 i hd]
        rfl
      have ge : ¬ mx_f2 .ge (Int32.ofNat i) (Int32.ofNat fs.length) = true := by
        rw [f2_ge, of_int (by omega), of_int (by omega)]
        simp
        omega
      have eq : (dcV L xs (dM L xs zf w (k + 3)) 151 [7, 16] (some nq) [va_rf (some q)] h).bind dxI = some ((if f i = c then 1 else 0 : Int32), h) := by
        obtain ⟨_, _, ⟨ci, a, fs', f', p1, p2, _⟩, _⟩ := id n2
        rw [dcV_lk p2 p1, show dM L xs zf w (k + 3) 151 (.ref nq :: [va_rf (some q)]) h = _ from se_of (k := k + 1) n2 hq (by omega)]
        rfl
      rw [b195_2]
      refine bse g4 (bse sz (ifn ge (bse g4 (bse gt (ifn (by rw [ck_of n3]; decide) (bse (fd_R (o := some nq) n1 (by decide)) (bse eq ?_)))))))
      rw [kF]
      by_cases z : f i = c
      · rw [if_pos z, if_pos z]
        refine ifn (by show ¬ mx_f1 .eq (1 : Int32) = true; decide) (bse g4 (bse gt (ifn (by rw [ck_of n3]; decide) ?_)))
        show _ = some (some (va_rf (fs[i]?)), h)
        rw [hd]
      · rw [if_neg z, if_neg z]
        refine ift (by show mx_f1 .eq (0 : Int32) = true; decide) ?_
        rw [show Int32.ofNat i + 1 = Int32.ofNat (i + 1) from of_add i 1]
        exact ih (i + 1) N (by omega) (by omega)
  rw [fd_v hK (by decide), e195]
  show (b195_2 L xs zf (dM L xs zf w (k + 3)) w w (some K) (some q) (Int32.ofNat 0) h).bind dxR = _
  rw [lp fs.length 0 w (by omega) (by omega)]
  cases kO fs (kF f c fs.length 0) <;> rfl
end GE
