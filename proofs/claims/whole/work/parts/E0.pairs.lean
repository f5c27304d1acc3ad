/-! REPEATED NAMES, BY THE CLASS. -/
/-- name i has come before -/
def rpS (f : Nat → Int64) (g : Nat → Int32) (lo i : Nat) (u v : Int32) : Prop := (∃ j, lo ≤ j ∧ j < i ∧ f j = f i) ∧ u = 2 ∧ v = g i
def rpA (f : Nat → Int64) (g : Nat → Int32) (lo hi : Nat) (u v : Int32) : Prop := ∃ i, lo ≤ i ∧ i < hi ∧ rpS f g lo i u v
theorem rpA_s {f : Nat → Int64} {g : Nat → Int32} {lo i : Nat} {u v : Int32} (hi : lo ≤ i) : rpA f g lo (i + 1) u v ↔ rpA f g lo i u v ∨ rpS f g lo i u v := by
  constructor
  · rintro ⟨j, a, b, c⟩
    by_cases z : j = i
    · exact Or.inr (by rw [← z]; exact c)
    · exact Or.inl ⟨j, a, by omega, c⟩
  · rintro (⟨j, a, b, c⟩ | c)
    · exact ⟨j, a, by omega, c⟩
    · exact ⟨i, hi, by omega, c⟩
theorem kF_own {f : Nat → Int64} {n i : Nat} (hi : i < n) : ∃ j, kF f (f i) n 0 = some j ∧ j ≤ i ∧ (j ≠ i ↔ ∃ j', 0 ≤ j' ∧ j' < i ∧ f j' = f i) := by
  cases hk : kF f (f i) n 0 with
  | none => exact absurd rfl (kF_none hk i (by omega) (by omega))
  | some j =>
    obtain ⟨a, b, c, d⟩ := kF_some hk
    refine ⟨j, rfl, Nat.le_of_not_lt (fun z => d i (by omega) z rfl), fun z => ⟨j, by omega, ?_, c⟩, ?_⟩
    · have : j ≤ i := Nat.le_of_not_lt (fun z => d i (by omega) z rfl)
      omega
    · rintro ⟨j', _, e1, e2⟩ z
      exact d j' (by omega) (by omega) e2
section PR
variable {L : Nat} {xs : Nat → Int32} {zf : Value} {w k n nk : Nat} {h0 h h1 : rm_H} {s0 s s1 : rS} {q l d ar cap : Nat} {ds : List Nat} {cx : Nat → Nat} {pt vr a b : Int32} {mv : Value} {S T : Int32 → Int32 → Prop} {f : Nat → Int64} {g : Nat → Int32}
theorem dI_st (i : dI h0 h) (p : pgS cx pt vr mv S h) (w : st1 (cx 8) h h1) : dI h0 h1 := by
  obtain ⟨a, b, p1, _⟩ := p
  exact dI_w i p1 (by decide) w (fun j hj => absurd (Or.inr (Or.inr rfl)) hj)
theorem c_noteS (p : pgS cx pt vr mv S h) (x y : Int32) (hx : 0 < x.toInt) : ∃ h', (dcV L xs (dM L xs zf w (k + 1)) 144 [4] (some (cx 8)) [.int x, .int y] h).bind dxV = some h' ∧ st1 (cx 8) h h' ∧ pgS cx pt vr mv (fun u v => S u v ∨ (u = x ∧ v = y)) h' := by
  obtain ⟨a, b, p1, p2⟩ := p
  obtain ⟨h', w1, w2, w3⟩ := c_noteD (L := L) (xs := xs) (zf := zf) (w := w) (k := k) p1 x y
  refine ⟨h', ?_, w3, _, _, w2, mn_nt p2 hx⟩
  rw [hc_v p1 (by decide), w1]
  rfl
/-- Decls with names f and places g -/
def dL (L : Nat) (xs : Nat → Int32) (h : rm_H) (l ar cap : Nat) (ds : List Nat) (f : Nat → Int64) (g : Nat → Int32) : Prop := aL h l ar cap ds ∧ ds.length ≤ 100 ∧ ∀ i d, ds[i]? = some d → (∃ nq, fd h 10 d 0 = some (.ref nq) ∧ nS L xs h nq (f i)) ∧ fd h 10 d 1 = some (.int (g i))
theorem dL_I (i : dI h0 h) (e : dL L xs h0 l ar cap ds f g) : dL L xs h l ar cap ds f g := ⟨dI_aL i e.1, e.2.1, fun j d hj => by
  obtain ⟨⟨nq, e1, e2⟩, e3⟩ := e.2.2 j d hj
  have nb : ∀ j, j ≠ 7 → ¬ bdF 10 j := fun j hj z => by rcases z with z | z | z <;> omega
  exact ⟨⟨nq, dI_f i e1 (nb 0 (by decide)), dI_n i e2⟩, dI_f i e3 (nb 1 (by decide))⟩⟩
theorem c_rep_in {K2 : Option Nat → Option Nat → Int32 → rm_H → Option dR} {i : Nat} (e : dL L xs h0 l ar cap ds f g) (hi : i < ds.length) (hw : 200 ≤ w) : ∀ (m j N : Nat) (h : rm_H) (S : Int32 → Int32 → Prop), j + m = i → m < N → dI h0 h → pgS cx pt vr mv S h → ∃ h', b154_14 L xs zf (dM L xs zf w (k + 3)) w K2 N (some (cx 8)) (some l) (Int32.ofNat i) (Int32.ofNat j) h = K2 (some (cx 8)) (some l) (Int32.ofNat (i + 1)) h' ∧ st1 (cx 8) h h' ∧ pgS cx pt vr mv (fun u v => S u v ∨ rpS f g j i u v) h' := by
  intro m
  induction m with
  | zero =>
    intro j N h S e1 hN _ p
    obtain ⟨N, rfl⟩ : ∃ M, N = M + 1 := ⟨N - 1, by omega⟩
    refine ⟨h, ?_, st1_refl _ _, pgS_ext (fun u v => ⟨Or.inl, fun z => ?_⟩) p⟩
    · rw [b154_14]
      refine itq ?_ ?_
      · rw [f2_ge, of_int (by have := e.2.1; omega), of_int (by have := e.2.1; omega)]
        simp
        omega
      · rw [show Int32.ofNat i + 1 = Int32.ofNat (i + 1) from of_add i 1]
    · rcases z with z | ⟨⟨j', z1, z2, _⟩, _⟩
      · exact z
      · omega
  | succ m ih =>
    intro j N h S e1 hN di p
    obtain ⟨N, rfl⟩ : ∃ M, N = M + 1 := ⟨N - 1, by omega⟩
    have l100 := e.2.1
    obtain ⟨e3, _, e5⟩ := dL_I di e
    obtain ⟨dj, hj⟩ : ∃ d, ds[j]? = some d := ⟨ds[j]'(by omega), List.getElem?_eq_getElem (by omega)⟩
    obtain ⟨d, hd⟩ : ∃ d, ds[i]? = some d := ⟨ds[i], List.getElem?_eq_getElem hi⟩
    obtain ⟨⟨nj, a1, a2⟩, _⟩ := e5 j dj hj
    obtain ⟨⟨ni, b1, b2⟩, b3⟩ := e5 i d hd
    obtain ⟨_, a4, _⟩ := fd_c a1
    obtain ⟨_, b4, _⟩ := fd_c b1
    have gt : ∀ (x dx : Nat), ds[x]? = some dx → (dcV L xs (dM L xs zf w (k + 3)) 146 [5] (some l) [.int (Int32.ofNat x)] h).bind dxR = some (some dx, h) := by
      intro x dx hx
      rw [al_v e3, al_get e3 x hx]
      rfl
    have eq : (dcV L xs (dM L xs zf w (k + 3)) 151 [7, 16] (some nj) [va_rf (some ni)] h).bind dxI = some ((if f j = f i then 1 else 0 : Int32), h) := by
      obtain ⟨_, _, ⟨ci, a, fs', f', p1, p2, _⟩, _⟩ := id a2
      rw [dcV_lk p2 p1, show dM L xs zf w (k + 3) 151 (.ref nj :: [va_rf (some ni)]) h = _ from se_of (k := k + 1) a2 b2 (by omega)]
      rfl
    have ge : ¬ mx_f2 .ge (Int32.ofNat j) (Int32.ofNat i) = true := by
      rw [f2_ge, of_int (by omega), of_int (by omega)]
      simp
      omega
    have hd' : ∀ r, (if mx_f1 .eq (if f j = f i then 1 else 0 : Int32) = true then b154_69 L xs zf (dM L xs zf w (k + 3)) w K2 (b154_14 L xs zf (dM L xs zf w (k + 3)) w K2 N) (some (cx 8)) (some l) (Int32.ofNat i) (Int32.ofNat j) h else (dgI L xs h 1 [10] (some d)).bind fun x30 => ((dcV L xs (dM L xs zf w (k + 3)) 144 [4] (some (cx 8)) [.int 2, .int x30] h).bind dxV).bind fun h32 => b154_69 L xs zf (dM L xs zf w (k + 3)) w K2 (b154_14 L xs zf (dM L xs zf w (k + 3)) w K2 N) (some (cx 8)) (some l) (Int32.ofNat i) (Int32.ofNat j) h32) = r → b154_14 L xs zf (dM L xs zf w (k + 3)) w K2 (N + 1) (some (cx 8)) (some l) (Int32.ofNat i) (Int32.ofNat j) h = r := by
      intro r er
      rw [b154_14]
      refine inq ge (bsq (gt j dj hj) (inq (by rw [ck_of a4]; decide) (bsq (fd_R (o := some nj) a1 (by decide)) (bsq (gt i d hd) (inq (by rw [ck_of b4]; decide) (bsq (fd_R (o := some ni) b1 (by decide)) (bsq eq ?_)))))))
      rw [← er]
      dsimp only
      generalize (if f j = f i then (1 : Int32) else 0) = z
      by_cases cz : mx_f1 .eq z = true
      · rw [if_pos cz, if_pos cz]
      · rw [if_neg cz, if_neg cz]
        exact bsq (gt i d hd) (inq (by rw [ck_of b4]; decide) rfl)
    have sj : Int32.ofNat j + 1 = Int32.ofNat (j + 1) := of_add j 1
    by_cases c : f j = f i
    · obtain ⟨h2, w1, w2, w3⟩ := c_noteS (L := L) (xs := xs) (zf := zf) (w := w) (k := k + 2) p 2 (g i) (by decide)
      obtain ⟨h3, r1, r2, r3⟩ := ih (j + 1) N h2 _ (by omega) (by omega) (dI_st di p w2) w3
      refine ⟨h3, hd' _ ?_, st1_trans w2 r2, pgS_ext (fun u v => ?_) r3⟩
      · rw [if_pos c]
        refine inq (by decide) (bsq (fd_I b3 (by decide)) (bsq w1 ?_))
        unfold b154_69
        rw [sj]
        exact r1
      · constructor
        · rintro ((z | ⟨z1, z2⟩) | ⟨⟨j', z1, z2, z3⟩, z4⟩)
          · exact Or.inl z
          · exact Or.inr ⟨⟨j, by omega, by omega, c⟩, z1, z2⟩
          · exact Or.inr ⟨⟨j', by omega, z2, z3⟩, z4⟩
        · rintro (z | ⟨_, z1, z2⟩)
          · exact Or.inl (Or.inl z)
          · exact Or.inl (Or.inr ⟨z1, z2⟩)
    · obtain ⟨h3, r1, r2, r3⟩ := ih (j + 1) N h _ (by omega) (by omega) di p
      refine ⟨h3, hd' _ ?_, r2, pgS_ext (fun u v => ?_) r3⟩
      · rw [if_neg c]
        refine itq (by decide) ?_
        unfold b154_69
        rw [sj]
        exact r1
      · constructor
        · rintro (z | ⟨⟨j', z1, z2, z3⟩, z4⟩)
          · exact Or.inl z
          · exact Or.inr ⟨⟨j', by omega, z2, z3⟩, z4⟩
        · rintro (z | ⟨⟨j', z1, z2, z3⟩, z4⟩)
          · exact Or.inl z
          · refine Or.inr ⟨⟨j', ?_, z2, z3⟩, z4⟩
            have : j' ≠ j := fun y => c (by rw [← y]; exact z3)
            omega
theorem c_rep_l (e : dL L xs h0 l ar cap ds f g) (hw : 200 ≤ w) : ∀ (m i N : Nat) (h : rm_H), i + m = ds.length → m < N → dI h0 h → pgS cx pt vr mv (fun u v => S u v ∨ rpA f g 0 i u v) h → ∃ h', b154_2 L xs zf (dM L xs zf w (k + 3)) w N (some (cx 8)) (some l) (Int32.ofNat i) h = some (none, h') ∧ st1 (cx 8) h h' ∧ pgS cx pt vr mv (fun u v => S u v ∨ rpA f g 0 ds.length u v) h' := by
  intro m
  induction m with
  | zero =>
    intro i N h e1 hN di p
    obtain ⟨N, rfl⟩ : ∃ M, N = M + 1 := ⟨N - 1, by omega⟩
    have ei : i = ds.length := by omega
    subst ei
    have e3 := (dL_I di e).1
    refine ⟨h, ?_, st1_refl _ _, p⟩
    rw [b154_2]
    refine bse (a := (Int32.ofNat ds.length, h)) ?_ (ift ?_ rfl)
    · rw [al_v e3, al_size e3]
      rfl
    · rw [f2_ge]
      simp
  | succ m ih =>
    intro i N h e1 hN di p
    obtain ⟨N, rfl⟩ : ∃ M, N = M + 1 := ⟨N - 1, by omega⟩
    have l100 := e.2.1
    have e3 := (dL_I di e).1
    obtain ⟨h2, r1, r2, r3⟩ := c_rep_in (L := L) (xs := xs) (zf := zf) (w := w) (k := k) (i := i) (K2 := b154_2 L xs zf (dM L xs zf w (k + 3)) w N) e (by omega) hw i 0 w h _ (by omega) (by omega) di p
    obtain ⟨h3, q1, q2, q3⟩ := ih (i + 1) N h2 (by omega) (by omega) (dI_st di p r2) (pgS_ext (fun u v => by
      rw [rpA_s (Nat.zero_le i)]
      exact or_assoc) r3)
    refine ⟨h3, ?_, st1_trans r2 q2, q3⟩
    rw [b154_2]
    refine bsq (a := (Int32.ofNat ds.length, h)) ?_ (inq ?_ (r1.trans q1))
    · rw [al_v e3, al_size e3]
      rfl
    · show ¬ mx_f2 .ge (Int32.ofNat i) (Int32.ofNat ds.length) = true
      rw [f2_ge, of_int (by omega), of_int (by omega)]
      simp
      omega
theorem c_rep (e : dL L xs h0 l ar cap ds f g) (hw : 200 ≤ w) (di : dI h0 h) (p : pgS cx pt vr mv S h) : ∃ h', (dcV L xs (dM L xs zf w (k + 4)) 154 [4] (some (cx 8)) [va_rf (some l)] h).bind dxV = some h' ∧ st1 (cx 8) h h' ∧ pgS cx pt vr mv (fun u v => S u v ∨ rpA f g 0 ds.length u v) h' := by
  obtain ⟨h', q1, q2, q3⟩ := c_rep_l (L := L) (xs := xs) (zf := zf) (w := w) (k := k) e hw ds.length 0 w h (by omega) (by have := e.2.1; omega) di (pgS_ext (fun u v => ⟨Or.inl, fun z => by
    rcases z with z | ⟨i, _, z, _⟩
    · exact z
    · omega⟩) p)
  refine ⟨h', ?_, q2, q3⟩
  obtain ⟨a, b, p1, _⟩ := p
  rw [hc_v p1 (by decide), e154]
  show (b154_2 L xs zf (dM L xs zf w (k + 3)) w w (some (cx 8)) (some l) (Int32.ofNat 0) h).bind dxV = _
  rw [q1]
  rfl
end PR
