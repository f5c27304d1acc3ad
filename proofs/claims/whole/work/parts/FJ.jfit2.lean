/-! BOTH CHECK: whether arguments fit, by both. -/
/-- the reference's chain of parts -/
def chR (s0 : rS) : List Nat → Int32 → Prop
  | [], x => x = 0
  | e :: r, x => x = Int32.ofNat e ∧ 1 ≤ e ∧ e < 4400 ∧ chR s0 r (s0.2.1 48 e)
/-- arguments: Nodes es, nodes ns, types ts, as both have noted them -/
def aQ (s0 : rS) (nk : Nat) (h : rm_H) (s : rS) (es ns ts : List Nat) : Prop := ns.length = es.length ∧ ts.length = es.length ∧ ∀ (i e0 m0 t : Nat), es[i]? = some e0 → ns[i]? = some m0 → ts[i]? = some t → fd h 12 e0 1 = some (.int (s0.2.1 50 m0)) ∧ fd h 12 e0 12 = some (.int (cT t)) ∧ s.2.1 86 m0 = rTp t ∧ vT s0 nk t ∧ t % 8 ≠ 6
section JF2
variable {L : Nat} {xs : Nat → Int32} {zf : Value} {w C Sc M Pl Ph LO HI nk m lv n p q i d lo hi k k2 z W ke kr K l τ px q0 q1 M' m' : Nat} {cx : Nat → Nat} {hB h h1 h2 : rm_H} {s0 s s1 s2 : rS} {pt vr gn gn1 a b a1 b1 x y rc t v : Int32} {mv : Value} {ds kl ml es ns ts : List Nat} {G : List scN} {u u1 u2 : Nat → Nat} {A B A1 B1 : Nat → Int32} {c : Int64} {X : scN} {f : Nat → Int64} {sl ty : Nat → Int32}
theorem chR_f : ∀ (ns : List Nat) (x : Int32), chR s0 ns x → ∃ Z : Nat → Int32, Z 0 = x ∧ Z ns.length = 0 ∧ ∀ i, i < ns.length → Z i = Int32.ofNat (ns.getD i 0) ∧ 1 ≤ ns.getD i 0 ∧ ns.getD i 0 < 4400 ∧ Z (i + 1) = s0.2.1 48 (ns.getD i 0) := by
  intro ns
  induction ns with
  | nil => intro x e; exact ⟨fun _ => 0, e.symm, rfl, fun i hi => by simp at hi⟩
  | cons e r ih =>
    intro x ⟨e1, e2, e3, e4⟩
    obtain ⟨Z, z1, z2, z3⟩ := ih _ e4
    refine ⟨fun i => if i = 0 then x else Z (i - 1), rfl, ?_, fun i hi => ?_⟩
    · show Z r.length = 0
      exact z2
    · cases i with
      | zero =>
        refine ⟨e1, e2, e3, ?_⟩
        show Z 0 = _
        exact z1
      | succ i =>
        obtain ⟨q1, q2, q3, q4⟩ := z3 i (by simpa using hi)
        exact ⟨q1, q2, q3, q4⟩
theorem gD (e : ns[i]? = some d) : ns.getD i 0 = d := by
  rw [List.getD_eq_getElem?_getD, e]
  rfl
theorem gDx (hi : i < ns.length) : ns[i]? = some (ns.getD i 0) := by
  rw [List.getD_eq_getElem?_getD, List.getElem?_eq_getElem hi]
  rfl
theorem r_358 {qs : List Nat} (hs : s.1 57 = 0) (rk : rK s0 s) (hn : n < 4400) (ch : chR s0 ns (s0.2.1 45 n)) (hl : ns.length ≤ 6) (r52 : s0.2.1 52 n = Int32.ofNat ns.length) (pm : pmT s0 m' qs) (hm : m' < 72) (lt : ts.length = ns.length) (lq : qs.length ≤ 6) (aq : ∀ (i m0 t : Nat), ns[i]? = some m0 → ts[i]? = some t → s.2.1 86 m0 = rTp t ∧ gTy t = true ∧ t % 8 ≠ 6) (hw : 200 ≤ w) (y3 : Int32) : rM w (k + 4) 358 [.ref 36, .int (Int32.ofNat n), .int (Int32.ofNat m'), .int y3] s = some (some (.int (if (if ns.length = qs.length then gfit (fun i => fitC (cT (ts.getD i 0)) (cT (qs.getD i 0))) (fun i => s0.2.1 50 (ns.getD i 0)) ns.length 0 else (8, y3)).1 = 0 then 1 else 0)), rzS s (if ns.length = qs.length then gfit (fun i => fitC (cT (ts.getD i 0)) (cT (qs.getD i 0))) (fun i => s0.2.1 50 (ns.getD i 0)) ns.length 0 else (8, y3)).1 (if ns.length = qs.length then gfit (fun i => fitC (cT (ts.getD i 0)) (cT (qs.getD i 0))) (fun i => s0.2.1 50 (ns.getD i 0)) ns.length 0 else (8, y3)).2) := by
  obtain ⟨p0, p1, p2, p3, p4⟩ := pm
  obtain ⟨Z, z1, z2, z3⟩ := chR_f ns _ ch
  have g77 : rs_aI s 77 (Int32.ofNat m') = some (Int32.ofNat p0) := (aI_at (i := m') (by decide) rfl (by omega) (by decide)).trans (by rw [rk_A rk (by decide), p1])
  have g771 : rs_aI s 77 (Int32.ofNat m' + 1) = some (Int32.ofNat (p0 + qs.length)) := by
    rw [show Int32.ofNat m' + 1 = Int32.ofNat (m' + 1) from of_add m' 1]
    exact (aI_at (i := m' + 1) (by decide) rfl (by omega) (by decide)).trans (by rw [rk_A rk (by decide), p2])
  have g52 : rs_aI s 52 (Int32.ofNat n) = some (Int32.ofNat ns.length) := (aI_at (i := n) (by decide) rfl hn (by decide)).trans (by rw [rk_A rk (by decide), r52])
  have g45 : rs_aI s 45 (Int32.ofNat n) = some (s0.2.1 45 n) := (aI_at (i := n) (by decide) rfl hn (by decide)).trans (by rw [rk_A rk (by decide)])
  have z0 : ∀ v : Nat, 1 ≤ v → v < 4400 → ¬ mx_f1 .eq (Int32.ofNat v) = true := by
    intro v v1 v2 q
    have := congrArg Int32.toInt (of_decide_eq_true q)
    rw [of_int (by omega), i0] at this
    omega
  rw [y358]
  show s358_0 (rM w (k + 3)) w (Int32.ofNat n) (Int32.ofNat m') y3 s = _
  unfold s358_0
  refine bsq g52 (bsq g771 (bsq g77 ?_))
  rw [of_dif p0 qs.length (by omega)]
  by_cases ll : ns.length = qs.length
  · rw [if_pos ll, if_pos (show mx_f2 .eq (Int32.ofNat ns.length) (Int32.ofNat qs.length) = true from by rw [ll]; exact decide_eq_true rfl)]
    refine bsq g77 (bsq g45 ?_)
    have lp : ∀ (r i N : Nat), i + r = ns.length → r < N → s358_52 (rM w (k + 3)) w N (Int32.ofNat (p0 + i)) 1 (Z i) s = some (some (.int (if (gfit (fun i => fitC (cT (ts.getD i 0)) (cT (qs.getD i 0))) (fun i => s0.2.1 50 (ns.getD i 0)) r i).1 = 0 then 1 else 0)), rzS s (gfit (fun i => fitC (cT (ts.getD i 0)) (cT (qs.getD i 0))) (fun i => s0.2.1 50 (ns.getD i 0)) r i).1 (gfit (fun i => fitC (cT (ts.getD i 0)) (cT (qs.getD i 0))) (fun i => s0.2.1 50 (ns.getD i 0)) r i).2) := by
      intro r
      induction r with
      | zero =>
        intro i N er hN
        obtain ⟨N, rfl⟩ : ∃ M, N = M + 1 := ⟨N - 1, by omega⟩
        rw [show i = ns.length by omega, z2, s358_52]
        exact itq (by decide) rfl
      | succ r ih =>
        intro i N er hN
        obtain ⟨N, rfl⟩ : ∃ M, N = M + 1 := ⟨N - 1, by omega⟩
        obtain ⟨x1, x2, x3, x4⟩ := z3 i (by omega)
        obtain ⟨a1, a2, a3⟩ := aq i _ _ (gDx (show i < ns.length by omega)) (gDx (show i < ts.length by omega))
        have tq := p4 i _ (gDx (show i < qs.length by omega))
        obtain ⟨r60, dq⟩ := tyc_r rk tq
        have r53' := r_353 (w := w) (k := k) (e := ns.getD i 0) hs x3 a2 a3 dq
        rw [rk_A rk (by decide)] at r53'
        have g86 : rs_aI s 86 (Int32.ofNat (ns.getD i 0)) = some (rTp (ts.getD i 0)) := (aI_at (i := ns.getD i 0) (by decide) rfl x3 (by decide)).trans (by rw [a1])
        have g81 : rs_aI s 81 (Int32.ofNat (p0 + i)) = some (s0.2.1 81 (p0 + i)) := (aI_at (i := p0 + i) (by decide) rfl (by omega) (by decide)).trans (by rw [rk_A rk (by decide)])
        have g48 : ∀ x y, rs_aI (rzS s x y) 48 (Int32.ofNat (ns.getD i 0)) = some (Z (i + 1)) := by
          intro x y
          refine (aI_at (i := ns.getD i 0) (by decide) rfl x3 (by decide)).trans ?_
          rw [x4]
          unfold rzS
          split
          · rw [rk_A rk (by decide)]
          · show some (s.2.1 48 _) = _
            rw [rk_A rk (by decide)]
        rw [x1, s358_52]
        refine inq (z0 _ x2 x3) (inq (by decide) (bsq g86 (bsq g81 (bsq r60 (bsq (a := (if fitC (cT (ts.getD i 0)) (cT (qs.getD i 0)) = 0 then 1 else 0, rzS s (fitC (cT (ts.getD i 0)) (cT (qs.getD i 0))) (s0.2.1 50 (ns.getD i 0)))) (by rw [r53']; rfl) (bsq (g48 _ _) ?_))))))
        rw [show Int32.ofNat (p0 + i) + 1 = Int32.ofNat (p0 + (i + 1)) from of_add (p0 + i) 1]
        unfold gfit
        by_cases c : fitC (cT (ts.getD i 0)) (cT (qs.getD i 0)) = 0
        · rw [if_pos c, if_pos c, c]
          exact ih (i + 1) N (by omega) (by omega)
        · obtain ⟨N, rfl⟩ : ∃ M, N = M + 1 := ⟨N - 1, by omega⟩
          dsimp only
          rw [if_neg c, if_neg c, if_neg c, s358_52]
          by_cases cz : mx_f1 .eq (Z (i + 1)) = true
          · exact itq cz rfl
          · exact inq cz (itq (by decide) rfl)
    have := lp ns.length 0 w (by omega) (by omega)
    rw [z1] at this
    exact this
  · have ne : ¬ mx_f2 .eq (Int32.ofNat ns.length) (Int32.ofNat qs.length) = true := by
      intro z
      have := congrArg Int32.toInt (of_decide_eq_true z)
      rw [of_int (by omega), of_int (by omega)] at this
      omega
    rw [if_neg ll, if_neg ne]
    exact bsq (a := rfS s 8 y3) (by rw [r_305 hs]; rfl) rfl
/-- by both -/
theorem j_199 {y1 : Int32} (e : CKJ L xs cx C Sc M pt vr mv hB s0 nk m h s ds G lv gn 0 b u A B) (aq : aQ s0 nk h s es ns ts) (hp : pts h q0 q1 p es) (hl : es.length ≤ 6) (e1 : fd hB 12 p 1 = some (.int y1)) (e3 : fd hB 12 p 3 = some (.int (s0.2.1 51 n))) (hn : n < 4400) (r52 : s0.2.1 52 n = Int32.ofNat es.length) (ch : chR s0 ns (s0.2.1 45 n)) (mj : mJ L xs hB s0 nk M' m') (hw : 200 ≤ w) : ∃ x y h', (dcV L xs (dM L xs zf w (k + 5)) 199 [13] (some C) [va_rf (some p), va_rf (some M')] h).bind dxV = some h' ∧ (∀ k2, rM w (k2 + 4) 358 [.ref 36, .int (Int32.ofNat n), .int (Int32.ofNat m'), .int (s0.2.1 51 n)] s = some (some (.int (if x = 0 then 1 else 0)), rzS s x y)) ∧ KH L xs cx C Sc M pt vr mv h' ds (gN G) (gSl G) (gTp G) gn (if lv = 0 then 0 else 1) (fa 0 x) (fb 0 b x y) u A B ∧ wF cx C Sc Pl Ph u h h' ∧ wK2 u u h h' ∧ (x = 0 ∨ 0 < x.toInt) ∧ (x = 0 → AF s0 m' ts) := by
  obtain ⟨kh, dl, bh, rk, e57, _, rg, gw⟩ := id e
  obtain ⟨a1, a2, a3⟩ := aq
  obtain ⟨m72, _, _, _, l', ar', cap', ps, qs, p0, o1, o2, o3, o4, o5, o6, o7, o8, _⟩ := mj
  have cls := c_199 (pl := Pl) (ph := Ph) (zf := zf) (w := w) (k := k) (T := fun i => cT (ts.getD i 0)) (Y := fun i => s0.2.1 50 (ns.getD i 0)) (Q := fun i => cT (qs.getD i 0)) kh hp (bh.1.1 _ _ _ (by decide) e1) (bh.1.1 _ _ _ (by decide) e3) hl (fun i e0 he => by
    have hi := (List.getElem?_eq_some_iff.mp he).1
    obtain ⟨q1, q2, _⟩ := a3 i e0 _ _ he (gDx (show i < ns.length by omega)) (gDx (show i < ts.length by omega))
    exact ⟨q1, q2⟩) (bh.2.2 _ _ _ o1) (bh.1.2.1 _ _ _ _ o2) (by omega) (fun i d hd => by
    have hi := (List.getElem?_eq_some_iff.mp hd).1
    exact bh.1.2.2.2.1 _ _ _ (o8 i d _ hd (gDx (show i < qs.length by omega))).1.2.2) hw
  obtain ⟨h', c1, c2, c3, c4, _⟩ := cls
  rw [o3, ← a1] at c2
  refine ⟨_, _, h', c1, fun k2 => r_358 (k := k2) e57 rk hn ch (by omega) (by rw [a1]; exact r52) o5 m72 (by omega) o4 (fun i m0 t h1 h2 => ?_) hw _, c2, c3, c4, ?_, fun hx => ⟨qs, o5, ?_, fun i t q h1 h2 => ?_⟩⟩
  · have hi := (List.getElem?_eq_some_iff.mp h1).1
    obtain ⟨_, _, q3, q4, q5⟩ := a3 i _ m0 t (gDx (show i < es.length by omega)) h1 h2
    exact ⟨q3, q4.1, q5⟩
  · by_cases ll : ns.length = qs.length
    · rw [if_pos ll]
      exact gfit_p (fun i => fitC_p _ _) _ _
    · rw [if_neg ll]
      exact Or.inr (by show 0 < (8 : Int32).toInt; decide)
  · by_cases ll : ns.length = qs.length
    · omega
    · rw [if_neg ll] at hx
      exact absurd (show (8 : Int32) = 0 from hx) (by decide)
  · by_cases ll : ns.length = qs.length
    · rw [if_pos ll] at hx
      have hi := (List.getElem?_eq_some_iff.mp h1).1
      have := gfit_0 _ _ hx i (by omega) (by omega)
      have this : fitC (cT (ts.getD i 0)) (cT (qs.getD i 0)) = 0 := this
      rw [gD h1, gD h2] at this
      exact this
    · rw [if_neg ll] at hx
      exact absurd (show (8 : Int32) = 0 from hx) (by decide)
end JF2
