/-! ALL TYPES ARE DECLARED BY THE CLASS. -/
/-- the type of Decl d, by what is written -/
def tyR (L : Nat) (xs : Nat → Int32) (h : rm_H) (s : rS) (nk d : Nat) (x : Int32) : Prop := ∃ bn c cp cq tq, dDat L xs h d bn c cp cq tq ∧ (dkF s nk bn c cp cq tq).1 = x
/-- the fault of it -/
def noR (L : Nat) (xs : Nat → Int32) (h : rm_H) (s : rS) (nk d : Nat) (u v : Int32) : Prop := ∃ bn c cp cq tq, dDat L xs h d bn c cp cq tq ∧ (dkF s nk bn c cp cq tq).2 = some (u, v)
/-- the Program with the first fault of S -/
def pgS (cx : Nat → Nat) (pt vr : Int32) (mv : Value) (S : Int32 → Int32 → Prop) (h : rm_H) : Prop := ∃ a b, hc h (cx 8) = some (pgD cx pt vr mv a b) ∧ mn S a b
section TY
variable {L : Nat} {xs : Nat → Int32} {zf : Value} {w k n nk : Nat} {h0 h h1 : rm_H} {s0 s s1 : rS} {q a9 c9 l d ar cap : Nat} {kl ts : List Nat} {cx : Nat → Nat} {pt vr a b bn cp cq tq : Int32} {mv v7 : Value} {c : Option Int64} {S T : Int32 → Int32 → Prop}
theorem pgS_ext (e : ∀ x y, S x y ↔ T x y) (p : pgS cx pt vr mv S h) : pgS cx pt vr mv T h := by
  obtain ⟨a, b, p1, p2⟩ := p
  exact ⟨a, b, p1, mn_ext e p2⟩
theorem dI_trans (a : dI h0 h) (b : dI h h1) : dI h0 h1 := by
  obtain ⟨a1, a2, a3, a4⟩ := a
  obtain ⟨b1, b2, b3, b4⟩ := b
  refine ⟨b1.trans a1, b2.trans a2, fr_trans a3 b3 (fun y hy u => ?_), fun ci p j hb => (b4 ci p j hb).trans (a4 ci p j hb)⟩
  obtain ⟨ci, fs, u1, u2⟩ := u
  obtain ⟨fs0, u3⟩ := fr_back a3 u1 hy
  exact ⟨ci, fs0, u3, u2⟩
/-- so far: i of the list of types -/
def tI (L : Nat) (xs : Nat → Int32) (cx : Nat → Nat) (pt vr : Int32) (s : rS) (nk : Nat) (ts : List Nat) (h0 : rm_H) (i : Nat) (h : rm_H) : Prop := dI h0 h ∧ pgS cx pt vr .null (fun u v => ∃ j d, j < i ∧ ts[j]? = some d ∧ noR L xs h0 s nk d u v) h ∧ (∀ d ∈ ts, ∃ x, fd h 10 d 7 = some (.int x) ∧ (x = 0 ∨ tyR L xs h0 s nk d x)) ∧ (∀ j d, j < i → ts[j]? = some d → ∃ x, fd h 10 d 7 = some (.int x) ∧ tyR L xs h0 s nk d x) ∧ ∀ p j, fd h 11 p j = fd h0 11 p j
theorem c_types_l (e9 : aL h0 (cx 9) a9 c9 kl) (ka : kA L xs h0 s kl) (e11 : aL h0 (cx 11) ar cap ts) (hl : ts.length ≤ 3000) (dd : ∀ d ∈ ts, ∃ bn c cp cq tq, dDat L xs h0 d bn c cp cq tq) (hw : 200 ≤ w) : ∀ (m i N : Nat) (h : rm_H), i + m = ts.length → m < N → tI L xs cx pt vr s kl.length ts h0 i h → ∃ h', b145_2 L xs zf (dM L xs zf w (k + 6)) w N (some (cx 8)) (Int32.ofNat i) h = b145_40 L xs zf (dM L xs zf w (k + 6)) w w (some (cx 8)) 0 h' ∧ tI L xs cx pt vr s kl.length ts h0 ts.length h' := by
  intro m
  induction m with
  | zero =>
    intro i N h e hN t
    obtain ⟨N, rfl⟩ : ∃ M, N = M + 1 := ⟨N - 1, by omega⟩
    have ei : i = ts.length := by omega
    subst ei
    refine ⟨h, ?_, t⟩
    obtain ⟨t1, ⟨a, b, t2, _⟩, _⟩ := t
    have e1 := dI_aL t1 e11
    have g3 : dgR L xs h 3 [4] (some (cx 8)) = some (some (cx 11)) := hc_gR (p := some (cx 11)) t2 rfl (by decide)
    have sz : (dcV L xs (dM L xs zf w (k + 6)) 101 [5] (some (cx 11)) [] h).bind dxI = some (Int32.ofNat ts.length, h) := by
      rw [al_v e1, al_size e1]
      rfl
    rw [b145_2, g3, Option.bind_some, sz, Option.bind_some, if_pos]
    rw [f2_ge]
    simp
  | succ m ih =>
    intro i N h e hN t
    obtain ⟨N, rfl⟩ : ∃ M, N = M + 1 := ⟨N - 1, by omega⟩
    obtain ⟨t1, ⟨a, b, t2, t3⟩, t4, t5, t6⟩ := t
    have e1 := dI_aL t1 e11
    obtain ⟨d, hd⟩ : ∃ d, ts[i]? = some d := ⟨ts[i]'(by omega), List.getElem?_eq_getElem (by omega)⟩
    have dm : d ∈ ts := List.mem_of_getElem? hd
    have g3 : dgR L xs h 3 [4] (some (cx 8)) = some (some (cx 11)) := hc_gR (p := some (cx 11)) t2 rfl (by decide)
    have sz : (dcV L xs (dM L xs zf w (k + 6)) 101 [5] (some (cx 11)) [] h).bind dxI = some (Int32.ofNat ts.length, h) := by
      rw [al_v e1, al_size e1]
      rfl
    have gt : (dcV L xs (dM L xs zf w (k + 6)) 146 [5] (some (cx 11)) [.int (Int32.ofNat i)] h).bind dxR = some (some d, h) := by
      rw [al_v e1, al_get e1 i hd]
      rfl
    obtain ⟨bn, c, cp, cq, tq, dt⟩ := dd d dm
    obtain ⟨x7, v7, o7⟩ := t4 d dm
    obtain ⟨fsd, hfd, _⟩ := fd_c v7
    obtain ⟨h1, w1, w2, w3, w4, w5, w6⟩ := c_type (zf := zf) (w := w) (k := k) t2 (dI_aL t1 e9) (kA_I t1 ka) (dDat_I t1 dt) v7 hw
    have nw : ∃ x, fd h1 10 d 7 = some (.int x) ∧ tyR L xs h0 s kl.length d x := by
      generalize hg : dkF s kl.length bn c cp cq tq = o at w4
      obtain ⟨o1, o2⟩ := o
      cases o2 with
      | none => exact ⟨o1, w4, bn, c, cp, cq, tq, dt, by rw [hg]⟩
      | some z =>
        refine ⟨x7, w4, bn, c, cp, cq, tq, dt, ?_⟩
        have ps := dkF_pos (s := s) (nk := kl.length) (bn := bn) (c := c) (cp := cp) (cq := cq) (tq := tq) (p := z) (by rw [hg])
        rcases o7 with o7 | ⟨bn', c', cp', cq', tq', dt', q'⟩
        · rw [ps.2, o7]
        · rw [dkF_uq dt dt']
          exact q'
    have t' : tI L xs cx pt vr s kl.length ts h0 (i + 1) h1 := by
      refine ⟨dI_trans t1 w2, ⟨_, _, w3, mn_ext (fun u v => ?_) (mn_ntF t3 (fun p hp => (dkF_pos hp).1))⟩, fun d' hd' => ?_, fun j d' hj hd' => ?_, fun p j => (w6 p j).trans (t6 p j)⟩
      · constructor
        · rintro (⟨j, d', z1, z2, z3⟩ | z)
          · exact ⟨j, d', by omega, z2, z3⟩
          · exact ⟨i, d, by omega, hd, bn, c, cp, cq, tq, dt, z⟩
        · rintro ⟨j, d', z1, z2, z3⟩
          by_cases z : j = i
          · rw [z, hd] at z2
            cases z2
            obtain ⟨bn', c', cp', cq', tq', dt', q'⟩ := z3
            exact Or.inr (by rw [dkF_uq dt dt']; exact q')
          · exact Or.inl ⟨j, d', by omega, z2, z3⟩
      · by_cases z : d' = d
        · obtain ⟨x, n1, n2⟩ := nw
          rw [z]
          exact ⟨x, n1, Or.inr n2⟩
        · obtain ⟨x, n1, n2⟩ := t4 d' hd'
          exact ⟨x, (w5 d' z).trans n1, n2⟩
      · by_cases z : d' = d
        · rw [z]
          exact nw
        · have ji : j ≠ i := fun q => z (by rw [q, hd] at hd'; cases hd'; rfl)
          obtain ⟨x, n1, n2⟩ := t5 j d' (by omega) hd'
          exact ⟨x, (w5 d' z).trans n1, n2⟩
    obtain ⟨h', r1, r2⟩ := ih (i + 1) N h1 (by omega) (by omega) t'
    refine ⟨h', ?_, r2⟩
    have cl : (dcV L xs (dM L xs zf w (k + 6)) 149 [4] (some (cx 8)) [va_rf (some d)] h).bind dxV = some h1 := by
      rw [hc_v t2 (by decide)]
      show (dM L xs zf w (k + 6) 149 [.ref (cx 8), .ref d] h).bind dxV = _
      rw [w1]
      rfl
    have ge : ¬ mx_f2 .ge (Int32.ofNat i) (Int32.ofNat ts.length) = true := by
      rw [f2_ge, of_int (by omega), of_int (by omega)]
      simp
      omega
    rw [b145_2]
    refine bsq g3 (bsq sz (inq ge (bsq g3 (bsq gt (inq (by rw [ck_of hfd]; decide) (bsq cl ?_))))))
    rw [show Int32.ofNat i + 1 = Int32.ofNat (i + 1) from of_add i 1]
    exact r1
end TY
