/-! THE KIND OF A NAME, BY BOTH; WHAT DECLARE LEAVES ALONE. -/
/-- the first number from i on, of n, with code c -/
def kF (f : Nat → Int64) (c : Int64) : Nat → Nat → Option Nat
  | 0, _ => none
  | n + 1, i => if f i = c then some i else kF f c n (i + 1)
def kI (o : Option Nat) : Int32 := match o with
  | none => -1
  | some k => Int32.ofNat k
theorem kF_some {f : Nat → Int64} {c : Int64} : ∀ {n i k : Nat}, kF f c n i = some k → i ≤ k ∧ k < i + n ∧ f k = c ∧ ∀ j, i ≤ j → j < k → f j ≠ c
  | 0, i, k, e => by cases e
  | n + 1, i, k, e => by
    rw [kF] at e
    split at e
    · next u =>
      cases e
      exact ⟨Nat.le_refl _, by omega, u, fun j h1 h2 => by omega⟩
    · next u =>
      obtain ⟨a, b, d, g⟩ := kF_some e
      refine ⟨by omega, by omega, d, fun j h1 h2 => ?_⟩
      by_cases z : j = i
      · rw [z]; exact u
      · exact g j (by omega) h2
theorem kF_none {f : Nat → Int64} {c : Int64} : ∀ {n i : Nat}, kF f c n i = none → ∀ j, i ≤ j → j < i + n → f j ≠ c
  | 0, i, e, j, h1, h2 => by omega
  | n + 1, i, e, j, h1, h2 => by
    rw [kF] at e
    split at e
    · cases e
    · next u =>
      by_cases z : j = i
      · rw [z]; exact u
      · exact kF_none e j (by omega) (by omega)
/-- fields that declare writes -/
def bdF (ci j : Nat) : Prop := (ci = 10 ∧ j = 7) ∨ (ci = 11 ∧ (j = 12 ∨ j = 13)) ∨ ci = 4
/-- the class's heap since declare began -/
def dI (h0 h : rm_H) : Prop := h.length = h0.length ∧ zh h = zh h0 ∧ fr (fun y => ∃ ci fs, hc h0 y = some (.inr (ci, fs)) ∧ (ci = 4 ∨ ci = 10 ∨ ci = 11)) h0 h ∧ ∀ ci p j, ¬ bdF ci j → fd h ci p j = fd h0 ci p j
/-- the reference's state since declare began -/
def dJ (s0 s : rS) : Prop := (∀ j, j ≠ 57 → j ≠ 58 → s.1 j = s0.1 j) ∧ (∀ p, p ≠ 53 → p ≠ 60 → s.2.1 p = s0.2.1 p) ∧ s.2.2 = s0.2.2
section FK
variable {L : Nat} {xs : Nat → Int32} {zf : Value} {w k n : Nat} {h0 h h1 : rm_H} {s0 s s1 : rS} {P q a9 c9 l : Nat} {kl : List Nat} {f : Nat → Int64} {c : Int64}
theorem dI_refl : dI h h := ⟨rfl, rfl, fr_refl _ _, fun _ _ _ _ => rfl⟩
theorem dJ_refl : dJ s s := ⟨fun _ _ _ => rfl, fun _ _ _ => rfl, rfl⟩
theorem dJ_trans {s2 : rS} (a : dJ s s1) (b : dJ s1 s2) : dJ s s2 := ⟨fun j h1 h2 => (b.1 j h1 h2).trans (a.1 j h1 h2), fun p h1 h2 => (b.2.1 p h1 h2).trans (a.2.1 p h1 h2), b.2.2.trans a.2.2⟩
theorem dI_back {p ci : Nat} {fs : List Value} (d : dI h0 h) (e : hc h p = some (.inr (ci, fs))) : ∃ fs0, hc h0 p = some (.inr (ci, fs0)) := fr_back d.2.2.1 e (by have := hc_lt e; have := d.1; omega)
/-- one object is written -/
theorem dI_w {p ci : Nat} {fs : List Value} (d : dI h0 h) (e : hc h p = some (.inr (ci, fs))) (hci : ci = 4 ∨ ci = 10 ∨ ci = 11) (w : st1 p h h1) (k : ∀ j, ¬ bdF ci j → fd h1 ci p j = fd h ci p j) : dI h0 h1 := by
  obtain ⟨fs0, e0⟩ := dI_back d e
  obtain ⟨d1, d2, d3, d4⟩ := d
  refine ⟨w.2.1.trans d1, w.2.2.trans d2, fr_trans d3 w.1 (fun y _ u => ?_), fun ci' p' j hb => ?_⟩
  · have u : y = p := u
    rw [u]
    exact ⟨ci, fs0, e0, hci⟩
  · rw [← d4 ci' p' j hb]
    by_cases z : p' = p
    · subst z
      by_cases y : ci' = ci
      · rw [y] at hb ⊢
        exact k j hb
      · obtain ⟨fs2, e2, _⟩ := w.1.2.2.1 _ _ _ e
        unfold fd
        rw [e, e2]
        dsimp only
        rw [if_neg (fun u => y u.symm), if_neg (fun u => y u.symm)]
    · exact fd_st w z
theorem dI_n (d : dI h0 h) (e : nS L xs h0 q c) : nS L xs h q c := nS_fr d.2.2.1 e
theorem dI_aL {ar cap : Nat} {es : List Nat} (d : dI h0 h) (e : aL h0 l ar cap es) : aL h l ar cap es := by
  obtain ⟨mc, e1, e2, e2', e3⟩ := id e
  refine aL_fr d.2.2.1 ?_ ?_ e
  · rintro ⟨ci, fs, u, v⟩
    rw [e1] at u
    cases u
    omega
  · rintro h5 ⟨ci, fs, u, v⟩
    rcases e3 with ⟨z, _⟩ | ⟨f, z, _⟩
    · exact h5 z
    · rw [z] at u
      cases u
theorem dI_c {p ci : Nat} {fs : List Value} (d : dI h0 h) (e : hc h0 p = some (.inr (ci, fs))) (hci : ci ≠ 4 ∧ ci ≠ 10 ∧ ci ≠ 11) : hc h p = some (.inr (ci, fs)) := by
  refine fr_old d.2.2.1 e ?_
  rintro ⟨ci', fs', u, v⟩
  rw [e] at u
  cases u
  omega
theorem dI_f {ci p j : Nat} {v : Value} (d : dI h0 h) (e : fd h0 ci p j = some v) (hb : ¬ bdF ci j) : fd h ci p j = some v := (d.2.2.2 ci p j hb).trans e
theorem ck_of {p ci : Nat} {fs : List Value} (e : hc h p = some (.inr (ci, fs))) : dcK L xs h [ci] (some p) = true := by
  show rm_cis 21 (ah_O L xs) h p [ci] = true
  unfold rm_cis
  rw [hc_look e]
  show List.contains [ci] ci = true
  simp
/-- the names of the Kinds -/
def kN (L : Nat) (xs : Nat → Int32) (h : rm_H) (kl : List Nat) (f : Nat → Int64) : Prop := ∀ j K, kl[j]? = some K → ∃ nm, fd h 9 K 0 = some (.ref nm) ∧ nS L xs h nm (f j)
theorem kN_I (d : dI h0 h) (e : kN L xs h0 kl f) : kN L xs h kl f := fun j K hj => by
  obtain ⟨nm, e1, e2⟩ := e j K hj
  exact ⟨nm, dI_f d e1 (fun z => by rcases z with z | z | z <;> omega), dI_n d e2⟩
def kO (kl : List Nat) (o : Option Nat) : Option Nat := o.bind fun k => kl[k]?
theorem c_find_l (h1 : fd h 4 P 1 = some (.ref l)) (e9 : aL h l a9 c9 kl) (hk : kN L xs h kl f) (hl : kl.length ≤ 100) (hq : nS L xs h q c) (hw : 9 ≤ w) : ∀ (m i N : Nat), i + m = kl.length → m < N → b150_2 L xs zf (dM L xs zf w (k + 3)) w N (some P) (some q) (Int32.ofNat i) h = some (some (va_rf (kO kl (kF f c m i))), h) := by
  intro m
  induction m with
  | zero =>
    intro i N e hN
    obtain ⟨N, rfl⟩ : ∃ M, N = M + 1 := ⟨N - 1, by omega⟩
    rw [b150_2]
    refine bse (fd_R (o := some l) h1 (by decide)) (bse (a := (Int32.ofNat kl.length, h)) ?_ (ift ?_ rfl))
    · rw [al_v e9, al_size e9]
      rfl
    · rw [f2_ge, of_int (by omega), of_int (by omega)]
      simp
      omega
  | succ m ih =>
    intro i N e hN
    obtain ⟨N, rfl⟩ : ∃ M, N = M + 1 := ⟨N - 1, by omega⟩
    obtain ⟨K, hK⟩ : ∃ K, kl[i]? = some K := ⟨kl[i]'(by omega), List.getElem?_eq_getElem (by omega)⟩
    obtain ⟨nm, n1, n2⟩ := hk i K hK
    obtain ⟨fs, n3, n4⟩ := fd_c n1
    have gt : (dcV L xs (dM L xs zf w (k + 3)) 146 [5] (some l) [.int (Int32.ofNat i)] h).bind dxR = some (some K, h) := by
      rw [al_v e9, al_get e9 i hK]
      rfl
    have sz : (dcV L xs (dM L xs zf w (k + 3)) 101 [5] (some l) [] h).bind dxI = some (Int32.ofNat kl.length, h) := by
      rw [al_v e9, al_size e9]
      rfl
    have ge : ¬ mx_f2 .ge (Int32.ofNat i) (Int32.ofNat kl.length) = true := by
      rw [f2_ge, of_int (by omega), of_int (by omega)]
      simp
      omega
    have eq : (dcV L xs (dM L xs zf w (k + 3)) 151 [7, 16] (some nm) [va_rf (some q)] h).bind dxI = some ((if f i = c then 1 else 0 : Int32), h) := by
      obtain ⟨_, _, ⟨ci, a, fs', f', p1, p2, _⟩, _⟩ := id n2
      rw [dcV_lk p2 p1, show dM L xs zf w (k + 3) 151 (.ref nm :: [va_rf (some q)]) h = _ from se_of (k := k + 1) n2 hq hw]
      rfl
    rw [b150_2]
    refine bse (fd_R (o := some l) h1 (by decide)) (bse sz (ifn ge (bse (fd_R (o := some l) h1 (by decide)) (bse gt (ifn (by rw [ck_of n3]; decide) (bse (fd_R (o := some nm) n1 (by decide)) (bse eq ?_)))))))
    rw [kF]
    by_cases u : f i = c
    · rw [if_pos u, if_pos u]
      refine ifn (by show ¬ mx_f1 .eq (1 : Int32) = true; decide) (bse (fd_R (o := some l) h1 (by decide)) (bse gt (ifn (by rw [ck_of n3]; decide) ?_)))
      show _ = some (some (va_rf (kl[i]?)), h)
      rw [hK]
    · rw [if_neg u, if_neg u]
      refine ift (by show mx_f1 .eq (0 : Int32) = true; decide) ?_
      rw [show Int32.ofNat i + 1 = Int32.ofNat (i + 1) from of_add i 1]
      exact ih (i + 1) N (by omega) (by omega)
theorem c_find (h1 : fd h 4 P 1 = some (.ref l)) (e9 : aL h l a9 c9 kl) (hk : kN L xs h kl f) (hl : kl.length ≤ 100) (hq : nS L xs h q c) (hw : 200 ≤ w) : dM L xs zf w (k + 4) 150 [.ref P, .ref q] h = some (some (va_rf (kO kl (kF f c kl.length 0))), h) := by
  rw [e150]
  show b150_0 L xs zf (dM L xs zf w (k + 3)) w (some P) (some q) h = _
  unfold b150_0
  exact c_find_l h1 e9 hk hl hq (by omega) kl.length 0 w (by omega) (by omega)
theorem r_find (e : s.1 32 = Int32.ofNat n) (hn : n ≤ 8) (hw : 200 ≤ w) : rM w (k + 1) 328 [.ref 36, .long c] s = some (some (.int (kI (kF (s.2.2 62) c n 0))), s) := by
  rw [y328]
  show s328_2 (rM w k) w w c 0 s = _
  have lp : ∀ (m i N : Nat), i + m = n → m < N → s328_2 (rM w k) w N c (Int32.ofNat i) s = some (some (.int (kI (kF (s.2.2 62) c m i))), s) := by
    intro m
    induction m with
    | zero =>
      intro i N e2 hN
      obtain ⟨N, rfl⟩ : ∃ M, N = M + 1 := ⟨N - 1, by omega⟩
      rw [s328_2, e]
      refine ift ?_ rfl
      rw [f2_ge, of_int (by omega), of_int (by omega)]
      simp
      omega
    | succ m ih =>
      intro i N e2 hN
      obtain ⟨N, rfl⟩ : ∃ M, N = M + 1 := ⟨N - 1, by omega⟩
      rw [s328_2, e]
      refine ifn ?_ (bse (aJ_at (i := i) (by decide) rfl (by omega) (by decide)) ?_)
      · rw [f2_ge, of_int (by omega), of_int (by omega)]
        simp
        omega
      · rw [lg_ne, kF]
        by_cases u : s.2.2 62 i = c
        · rw [if_pos u]
          exact ifn (by simp [u]) rfl
        · rw [if_neg u]
          refine ift (by simp [u]) ?_
          rw [show Int32.ofNat i + 1 = Int32.ofNat (i + 1) from of_add i 1]
          exact ih (i + 1) N (by omega) (by omega)
  exact lp n 0 w (by omega) (by omega)
end FK
