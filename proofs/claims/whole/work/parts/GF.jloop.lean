/-! BOTH CHECK ALL BODIES: the loop. -/
section JLP
variable {L : Nat} {xs : Nat → Int32} {zf : Value} {w C Sc nk gn j j2 i m M : Nat} {cx : Nat → Nat} {hD hK h h' : rm_H} {sD s s' : rS} {pt vr a b : Int32} {mv : Value} {kl ml : List Nat} {u0 u : Nat → Nat} {A B : Nat → Int32}
theorem ci_l (hC8 : cx 8 ≤ C) (hS8 : cx 8 ≤ Sc) (dc : DCX L xs w cx hD sD nk gn kl ml) : ∀ (r i N N2 : Nat) (h : rm_H) (s : rS) (a b : Int32) (u : Nat → Nat) (A B : Nat → Int32), i + r = ml.length → r < N → r < N2 → CI L xs cx C Sc pt vr mv hD hK sD gn ml u0 i h s a b u A B → ∃ i' h' s' a' b' u' A' B', b163_2 L xs zf (dM L xs zf w (254 + j)) w N (some C) (Int32.ofNat i) h = some (none, h') ∧ s294_144 (rM w (254 + j2)) w N2 (Int32.ofNat i) s = s294_170 (rM w (254 + j2)) w s' ∧ CI L xs cx C Sc pt vr mv hD hK sD gn ml u0 i' h' s' a' b' u' A' B' ∧ (a' = 0 → i' = ml.length) := by
  obtain ⟨_, bj, _, _, _, _, _, _, _, _, l72, ⟨ar, cap, el⟩, ⟨x42, _⟩, _⟩ := id dc
  intro r
  induction r with
  | zero =>
    intro i N N2 h s a b u A B hi hN hN2 ci
    obtain ⟨N, rfl⟩ : ∃ M, N = M + 1 := ⟨N - 1, by omega⟩
    obtain ⟨N2, rfl⟩ : ∃ M, N2 = M + 1 := ⟨N2 - 1, by omega⟩
    obtain ⟨⟨⟨vM, sn, gg, k1⟩, k2, _⟩, s57, _, g, f, rk, _⟩ := id ci
    have z2 := g.1.2.1 _ _ _ _ el
    have ei : i = ml.length := by omega
    refine ⟨i, h, s, a, b, u, A, B, ?_, ?_, ci, fun _ => ei⟩
    · rw [b163_2]
      refine bsq (hc_gR (p := some (cx 8)) k1 rfl (by decide)) (bsq (hc_gR (p := some (cx 10)) k2 rfl (by decide)) (bsq (a := (Int32.ofNat ml.length, h)) (by rw [show 254 + j = 253 + j + 1 from by omega, al_v z2, al_size z2]; rfl) (itq ?_ rfl)))
      show mx_f2 .ge (Int32.ofNat i) (Int32.ofNat ml.length) = true
      rw [f2_ge, ei]
      simp
    · rw [s294_144]
      refine itq ?_ rfl
      rw [rk.1 42 (by omega), x42, f2_ge, ei]
      simp
  | succ r ih =>
    intro i N N2 h s a b u A B hi hN hN2 ci
    obtain ⟨N, rfl⟩ : ∃ M, N = M + 1 := ⟨N - 1, by omega⟩
    obtain ⟨N2, rfl⟩ : ∃ M, N2 = M + 1 := ⟨N2 - 1, by omega⟩
    obtain ⟨⟨⟨vM, sn, gg, k1⟩, k2, _⟩, s57, s58, g, f, rk, _⟩ := id ci
    have z2 := g.1.2.1 _ _ _ _ el
    have c0 : dgR L xs h 0 [13] (some C) = some (some (cx 8)) := hc_gR (p := some (cx 8)) k1 rfl (by decide)
    have c2 : dgR L xs h 2 [4] (some (cx 8)) = some (some (cx 10)) := hc_gR (p := some (cx 10)) k2 rfl (by decide)
    have c7 : dgI L xs h 7 [4] (some (cx 8)) = some a := hc_gI k2 rfl (by decide)
    have cs : (dcV L xs (dM L xs zf w (254 + j)) 101 [5] (some (cx 10)) [] h).bind dxI = some (Int32.ofNat ml.length, h) := by rw [show 254 + j = 253 + j + 1 from by omega, al_v z2, al_size z2]; rfl
    have nge : ¬ mx_f2 .ge (Int32.ofNat i) (Int32.ofNat ml.length) = true := by
      rw [f2_ge, of_int (by omega), of_int (by omega)]
      simp
      omega
    have nge2 : ¬ mx_f2 .ge (Int32.ofNat i) (s.1 42) = true := by rw [rk.1 42 (by omega), x42]; exact nge
    by_cases ha : a = 0
    · subst ha
      have hm : ml[i]? = some (ml[i]'(by omega)) := List.getElem?_eq_getElem (by omega)
      obtain ⟨h1, s1, a1, b1, u1, A1, B1, q1, q2, q3⟩ := ci_s (zf := zf) (j := j) (j2 := j2) hC8 hS8 dc ci hm
      obtain ⟨i', h', s', a', b', u', A', B', p1, p2, p3, p4⟩ := ih (i + 1) N N2 h1 s1 a1 b1 u1 A1 B1 (by omega) (by omega) (by omega) q3
      obtain ⟨fs, hs2, _⟩ := fd_c (g.2.2 _ _ _ (by decide) (bj i _ hm).1.2.2.1)
      refine ⟨i', h', s', a', b', u', A', B', ?_, ?_, p3, p4⟩
      · rw [b163_2]
        refine bsq c0 (bsq c2 (bsq cs (inq nge (bsq c0 (bsq c7 (inq (by decide) (bsq c0 (bsq c2 (bsq (a := (some (ml[i]'(by omega)), h)) (by rw [show 254 + j = 251 + j + 3 from by omega, al_v z2, al_get z2 i hm]; rfl) (inq (by rw [ck_of hs2]; decide) (bsq (a := h1) ?_ ?_)))))))))))
        · rw [hc_v k1 (by decide), show va_rf (some (ml[i]'(by omega))) = .ref (ml[i]'(by omega)) from rfl, q1]
          rfl
        · rw [show Int32.ofNat i + 1 = Int32.ofNat (i + 1) from of_add i 1]
          exact p1
      · rw [s294_144]
        refine inq nge2 (inq (by rw [s57]; decide) (bsq (a := s1) (by rw [q2]; rfl) ?_))
        rw [show Int32.ofNat i + 1 = Int32.ofNat (i + 1) from of_add i 1]
        exact p2
    · refine ⟨i, h, s, a, b, u, A, B, ?_, ?_, ci, fun z => absurd z ha⟩
      · rw [b163_2]
        exact bsq c0 (bsq c2 (bsq cs (inq nge (bsq c0 (bsq c7 (itq (by rw [f1_ne]; exact decide_eq_true ha) rfl))))))
      · rw [s294_144]
        exact inq nge2 (itq (by rw [s57, f1_ne]; exact decide_eq_true ha) rfl)
/-- all bodies -/
theorem j_163 (hC8 : cx 8 ≤ C) (hS8 : cx 8 ≤ Sc) (dc : DCX L xs w cx hD sD nk gn kl ml) (ci : CI L xs cx C Sc pt vr mv hD hK sD gn ml u0 0 h s a b u A B) : ∃ i' h' s' a' b' u' A' B', dM L xs zf w (255 + j) 163 [.ref C] h = some (none, h') ∧ s294_142 (rM w (254 + j2)) w s = s294_170 (rM w (254 + j2)) w s' ∧ CI L xs cx C Sc pt vr mv hD hK sD gn ml u0 i' h' s' a' b' u' A' B' ∧ (a' = 0 → i' = ml.length) := by
  have l72 : ml.length ≤ 72 := by obtain ⟨_, _, _, _, _, _, _, _, _, _, l72, _⟩ := dc; exact l72
  have w46 : 4600 ≤ w := by obtain ⟨_, _, _, _, _, _, _, _, w46, _⟩ := dc; exact w46
  obtain ⟨i', h', s', a', b', u', A', B', p1, p2, p3, p4⟩ := ci_l (zf := zf) (j := j) (j2 := j2) hC8 hS8 dc ml.length 0 w w h s a b u A B (by omega) (by omega) (by omega) ci
  refine ⟨i', h', s', a', b', u', A', B', ?_, p2, p3, p4⟩
  rw [show 255 + j = 254 + j + 1 from by omega, e163]
  exact p1
end JLP
