/-! THE CLASS'S CHECKER: its small methods. -/
section KO
variable {L : Nat} {xs : Nat → Int32} {zf : Value} {w k C Sc M pl ph : Nat} {cx : Nat → Nat} {h h1 h2 : rm_H} {pt vr gn rc a b x y : Int32} {mv : Value} {ds : List Nat} {f : Nat → Int64} {sl ty : Nat → Int32} {u u1 u2 : Nat → Nat} {A B : Nat → Int32}
/-- only the Checker's cell is written -/
theorem KH_C {ds' : List Nat} {gn' rc' : Int32} {ou' : Nat} (kh : KH L xs cx C Sc M pt vr mv h ds f sl ty gn rc a b u A B) (w : st1 C h h1) (e : hc h1 C = some (ckC (cx 8) Sc M ds'.length gn' ou' rc')) (hd : ∀ i, i < ds'.length → ds'[i]? = ds[i]?) (hl : ds'.length ≤ ds.length) (ho : ou' ≤ ds'.length) : KH L xs cx C Sc M pt vr mv h1 ds' f sl ty gn' rc' a b (gu u 0 ou') A B ∧ wF cx C Sc pl ph u h h1 ∧ wK2 u (gu u 0 ou') h h1 := by
  obtain ⟨k1, k2, ⟨g, k3, k3'⟩, ⟨k4, k4b⟩, k5, ⟨k6, k7, k8, k9, k10⟩, k11, k12, k13, k14⟩ := kh
  have n1 : cx 8 ≠ C := fun z => by rw [z, k1] at k2; cases k2
  have n2 : Sc ≠ C := fun z => by rw [z, k1] at k3; cases k3
  have n3 : u 3 ≠ C := fun z => by rw [z, k1] at k6; cases k6
  have n4 : u 4 ≠ C := fun z => by rw [z, k1] at k7; cases k7
  refine ⟨⟨e, st1_old w k2 n1, ⟨g, st1_old w k3 n2, fun i hi => by rw [hd i hi]; exact k3' i (by omega)⟩, ⟨by omega, k4b⟩, fun i d hi => ?_, ⟨st1_old w k6 n3, st1_old w k7 n4, k8, k9, k10⟩, k11, k12, k13, ho⟩, ⟨fr_mono w.1 (fun _ _ z => Or.inl z), fun p fs ep => ?_⟩, ⟨Or.inl rfl, Or.inl rfl, by rw [w.2.2]; rfl, by rw [w.2.1]; exact Nat.le_refl _, Nat.le_refl _, Nat.le_refl _⟩⟩
  · have lt := (List.getElem?_eq_some_iff.mp hi).1
    rw [hd i lt] at hi
    exact dSn_o w.1 (fun fs z => st1_old w z (fun q => by rw [q, k1] at z; cases z)) (k5 i d hi)
  · have e2 := st1_old w ep (fun q => by rw [q, k1] at ep; cases ep)
    exact Or.inl e2
theorem ck_0 (kh : KH L xs cx C Sc M pt vr mv h ds f sl ty gn rc a b u A B) : dgR L xs h 0 [13] (some C) = some (some (cx 8)) := hc_gR (p := some (cx 8)) kh.1 rfl (by decide)
theorem ck_1 (kh : KH L xs cx C Sc M pt vr mv h ds f sl ty gn rc a b u A B) : dgR L xs h 1 [13] (some C) = some (some Sc) := hc_gR (p := some Sc) kh.1 rfl (by decide)
theorem ck_2 (kh : KH L xs cx C Sc M pt vr mv h ds f sl ty gn rc a b u A B) : dgR L xs h 2 [13] (some C) = some (some M) := hc_gR (p := some M) kh.1 rfl (by decide)
theorem ck_3 (kh : KH L xs cx C Sc M pt vr mv h ds f sl ty gn rc a b u A B) : dgI L xs h 3 [13] (some C) = some (Int32.ofNat ds.length) := hc_gI kh.1 rfl (by decide)
theorem ck_4 (kh : KH L xs cx C Sc M pt vr mv h ds f sl ty gn rc a b u A B) : dgI L xs h 4 [13] (some C) = some gn := hc_gI kh.1 rfl (by decide)
theorem ck_5 (kh : KH L xs cx C Sc M pt vr mv h ds f sl ty gn rc a b u A B) : dgI L xs h 5 [13] (some C) = some (Int32.ofNat (u 0)) := hc_gI kh.1 rfl (by decide)
theorem ck_6 (kh : KH L xs cx C Sc M pt vr mv h ds f sl ty gn rc a b u A B) : dgI L xs h 6 [13] (some C) = some rc := hc_gI kh.1 rfl (by decide)
theorem ck_7 (kh : KH L xs cx C Sc M pt vr mv h ds f sl ty gn rc a b u A B) : dgI L xs h 7 [4] (some (cx 8)) = some a := hc_gI kh.2.1 rfl (by decide)
theorem ck_v {mi : Nat} {As : List Value} {D : dD} (kh : KH L xs cx C Sc M pt vr mv h ds f sl ty gn rc a b u A B) : dcV L xs D mi [13] (some C) As h = D mi (.ref C :: As) h := hc_v kh.1 (by decide)
theorem gu_0 : gu u 0 (u 0) = u := by
  funext i
  unfold gu
  by_cases z : i = 0
  · subst z; simp
  · simp [z]
/-- gone is set -/
theorem ck_gone (kh : KH L xs cx C Sc M pt vr mv h ds f sl ty gn rc a b u A B) (x : Int32) : ∃ h', dpF h 4 [13] (some C) (.int x) = some h' ∧ KH L xs cx C Sc M pt vr mv h' ds f sl ty x rc a b u A B ∧ wF cx C Sc pl ph u h h' ∧ wK2 u u h h' := by
  obtain ⟨h', w1, w2, w3⟩ := pF_ex (v := .int x) (j := 4) (cis := [13]) kh.1 rfl (by decide) rfl (by decide)
  have := KH_C (pl := pl) (ph := ph) (ds' := ds) (gn' := x) (rc' := rc) (ou' := u 0) kh w3 w2 (fun _ _ => rfl) (Nat.le_refl _) kh.2.2.2.2.2.2.2.2.2
  rw [gu_0] at this
  exact ⟨h', w1, this⟩
/-- behind a fault none is noted -/
theorem ck_refB (kh : KH L xs cx C Sc M pt vr mv h ds f sl ty gn rc a b u A B) (ha : a ≠ 0) (x y : Int32) : (dcV L xs (dM L xs zf w (k + 1)) 178 [13] (some C) [.int x, .int y] h).bind dxV = some h := by
  rw [ck_v kh, e178]
  show (b178_0 L xs zf (dM L xs zf w k) w (some C) x y h).bind dxV = _
  refine bsq (a := (none, h)) ?_ rfl
  unfold b178_0
  refine bsq (ck_0 kh) (bsq (ck_7 kh) (itq ?_ rfl))
  rw [f1_ne]
  exact decide_eq_true ha
/-- the first fault is noted -/
theorem ck_refA (kh : KH L xs cx C Sc M pt vr mv h ds f sl ty gn rc 0 b u A B) (x y : Int32) (hx : x ≠ 0 := by decide) : ∃ h', (dcV L xs (dM L xs zf w (k + 1)) 178 [13] (some C) [.int x, .int y] h).bind dxV = some h' ∧ KH L xs cx C Sc M pt vr mv h' ds f sl ty gn rc x y u A B ∧ wF cx C Sc pl ph u h h' ∧ wK2 u u h h' := by
  obtain ⟨k1, k2, ⟨g, k3, k3'⟩, ⟨k4, k4b⟩, k5, ⟨k6, k7, k8, k9, k10⟩, k11, k12, k13, k14⟩ := id kh
  obtain ⟨h2, w1, w2, w3⟩ := pF_ex (v := .int x) (j := 7) (cis := [4]) k2 rfl (by decide) rfl (by decide)
  have w2 : hc h2 (cx 8) = some (pgK cx pt vr mv x b (u 3) (u 4) (u 2)) := w2
  obtain ⟨h3, v1, v2, v3⟩ := pF_ex (v := .int y) (j := 8) (cis := [4]) w2 rfl (by decide) rfl (by decide)
  have v2 : hc h3 (cx 8) = some (pgK cx pt vr mv x y (u 3) (u 4) (u 2)) := v2
  have st := st1_trans w3 v3
  have nC : C ≠ cx 8 := fun z => by rw [z, k2] at k1; cases k1
  have c2 := st1_old w3 k1 nC
  refine ⟨h3, ?_, ⟨st1_old st k1 nC, v2, ⟨g, st1_old st k3 (fun z => by rw [z, k2] at k3; cases k3), k3'⟩, ⟨k4, fun z => absurd z hx⟩, fun i d hi => dSn_o st.1 (fun fs z => st1_old st z (fun q => by rw [q, k2] at z; cases z)) (k5 i d hi), ⟨st1_old st k6 (fun z => by rw [z, k2] at k6; cases k6), st1_old st k7 (fun z => by rw [z, k2] at k7; cases k7), k8, k9, k10⟩, k11, k12, k13, k14⟩, ⟨fr_mono st.1 (fun _ _ z => Or.inr (Or.inl z)), fun p fs ep => ?_⟩, ⟨Or.inl rfl, Or.inl rfl, by rw [st.2.2], by rw [st.2.1]; exact Nat.le_refl _, Nat.le_refl _, Nat.le_refl _⟩⟩
  · rw [ck_v kh, e178]
    show (b178_0 L xs zf (dM L xs zf w k) w (some C) x y h).bind dxV = _
    refine bsq (a := (none, h3)) ?_ rfl
    unfold b178_0
    exact bsq (ck_0 kh) (bsq (ck_7 kh) (inq (by decide) (bsq (ck_0 kh) (bsq w1 (bsq (hc_gR (p := some (cx 8)) c2 rfl (by decide)) (bsq v1 rfl))))))
  · have e2 := st1_old st ep (fun q => by rw [q, k2] at ep; cases ep)
    exact Or.inl e2
/-- the numbers when an instruction has been emitted -/
def uE (u : Nat → Nat) (m ca oa : Nat) : Nat → Nat := gu (gu (gu (gu u 1 m) 2 (u 2 + 1)) 3 ca) 4 oa
theorem ck_emit (kh : KH L xs cx C Sc M pt vr mv h ds f sl ty gn rc a b u A B) (hz : u 2 ≤ 9000) (x y : Int32) : ∃ h' u' A' B', (dcV L xs (dM L xs zf w (k + 3)) 175 [4] (some (cx 8)) [.int x, .int y] h).bind dxI = some (Int32.ofNat (u 2), h') ∧ KH L xs cx C Sc M pt vr mv h' ds f sl ty gn rc a b u' A' B' ∧ wF cx C Sc pl ph u h h' ∧ wK2 u u' h h' ∧ u' 2 = u 2 + 1 ∧ u' 0 = u 0 ∧ (A' (u 2) = x ∧ B' (u 2) = y) ∧ ∀ i, i < u 2 → A' i = A i ∧ B' i = B i := by
  obtain ⟨k1, k2, ⟨g, k3, k3'⟩, k4, k5, cr, k11, k12, k13, k14⟩ := id kh
  obtain ⟨k6, k7, k8, k9, k10⟩ := id cr
  obtain ⟨h', ca', oa', m', A', B', e1, e2, e3, e4, e5, e6, e7, e8⟩ := c_emit (L := L) (xs := xs) (zf := zf) (w := w) (k := k) (x := x) (y := y) k2 cr k11 (by omega)
  have no : ∀ q ci fs, hc h q = some (.inr (ci, fs)) → ci ≠ 4 → ¬ (q = cx 8 ∨ q = u 3 ∨ q = u 4) := by
    intro q ci fs e hci z
    rcases z with z | z | z
    · rw [z, k2] at e; cases e; exact hci rfl
    · rw [z, k6] at e; cases e
    · rw [z, k7] at e; cases e
  refine ⟨h', uE u m' ca' oa', A', B', e1, ⟨fr_old e7 k1 (no _ _ _ k1 (by decide)), e2, ⟨g, fr_old e7 k3 (fun z => ?_), k3'⟩, k4, fun i d hi => dSn_o e7 (fun fs z => fr_old e7 z (no _ _ _ z (by decide))) (k5 i d hi), e3, e4, ?_, ?_, k14⟩, ⟨fr_mono e7 (fun q _ z => ?_), fun p fs ep => ?_⟩, ?_, rfl, rfl, e5, e6⟩
  · rcases z with z | z | z
    · rw [z, k2] at k3; cases k3
    · rw [z, k6] at k3; cases k3
    · rw [z, k7] at k3; cases k3
  · show 64 ≤ m'
    omega
  · show m' = 64 ∨ m' ≤ 2 * (u 2 + 1)
    omega
  · rcases z with z | z | z
    · exact Or.inr (Or.inl z)
    · exact Or.inr (Or.inr (Or.inr (Or.inl z)))
    · exact Or.inr (Or.inr (Or.inr (Or.inr (Or.inl z))))
  · have e2 := fr_old e7 ep (no _ _ _ ep (by decide))
    exact Or.inl e2
  · show (ca' = u 3 ∨ _) ∧ (oa' = u 4 ∨ _) ∧ zh h' + 4 * u 1 = zh h + 4 * m' ∧ 32 * h'.length + u 1 ≤ 32 * h.length + m' ∧ u 2 ≤ u 2 + 1 ∧ u 1 ≤ m'
    rcases e8 with ⟨q1, q2, q3, q4, q5⟩ | ⟨q1, q2, q3, q4, q5, q6⟩
    · exact ⟨Or.inl q2, Or.inl q3, by omega, by omega, by omega, by omega⟩
    · exact ⟨Or.inr q3, Or.inr q4, by omega, by omega, by omega, by omega⟩
end KO
