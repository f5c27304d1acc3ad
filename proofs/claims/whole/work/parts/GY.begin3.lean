/-! EVERY NODE BEGINS AT A POINT. -/
/-- behind a block's steps -/
def FIN (s : rS) (A B : Nat → Int32) (m F lo hi u how c d lv : Nat) (Go : List scN) (g' : Int32) (tg : Nat) (St : List stE) : Prop := (how = 0 ∧ ∃ u', u = u' + 1 ∧ BC s A B m F lo hi u' c d lv Go g' St) ∨ (how = 1 ∧ lv = 0 ∧ St = []) ∨ (how = 2 ∧ ∃ R lv0 : Nat, s.2.1 49 c = Int32.ofNat R ∧ 1 ≤ R ∧ R < 4400 ∧ (lv = lv0 + 1 ∧ (∀ x ∈ Go, x.2.2.2 ≤ lv0) ∧ s.2.1 44 R = 9) ∧ EC s A B m F lo hi R d lv0 Go g' (rqT tg) St)
section FEM
variable {s : rS} {A B : Nat → Int32} {m F lo hi np : Nat}
theorem XS_how {R : EXJ} {Q : BLJ} {lv : Nat} {G G' : List scN} {g g' : Int32} {n how tg a b : Nat} (h : XS s (s.2.1 53) A B m R Q lv G g n how G' tg g' a b) : (s.2.1 44 n = 24 → how = 1) ∧ (s.2.1 44 n = 25 → how = 2) ∧ s.2.1 44 n ≠ 30 ∧ ∃ y, G' = G ++ y := by
  obtain ⟨K, l, eK, _, _, _, x⟩ := h
  by_cases hk : K = 20 ∨ K = 21 ∨ K = 22 ∨ K = 23 ∨ K = 24 ∨ K = 25 ∨ K = 26 ∨ K = 27
  · have t : ∀ K, K < 32 → (Int32.ofNat K = 24 → K = 24) ∧ (Int32.ofNat K = 25 → K = 25) ∧ (K ≠ 30 → Int32.ofNat K ≠ 30) := by decide
    obtain ⟨t1, t2, t3⟩ := t K (by omega)
    rw [eK]
    refine ⟨fun z => ?_, fun z => ?_, t3 (by omega), ?_⟩
    · have := t1 z
      subst this
      exact x.2.1
    · have := t2 z
      subst this
      exact x.2.1
    · rcases hk with rfl | rfl | rfl | rfl | rfl | rfl | rfl | rfl
      · obtain ⟨tv, td, sl, c1, g1', _, _, _, _, _, _, eG, _⟩ := x
        exact ⟨_, eG⟩
      all_goals exact ⟨[], by rw [x.1, List.append_nil]⟩
  · exfalso
    revert x
    split <;> first | omega | exact id
theorem XLH {dd u c lv how tg d a e : Nat} {r : List Nat} {G Go gx : List scN} {g g' x : Int32} {St : List stE} (hu : u + 2 * dd ≤ 2 * F + 4) (hd : dd ≤ F) (xl : XL s (s.2.1 53) A B m (TU s (s.2.1 53) A B m dd).1 (TU s (s.2.1 53) A B m dd).2 lv how (e :: r) G g x tg g' a d) (ch : CHA s lo hi c 30 x) (hc : 1 ≤ c ∧ c < 4400) (e30 : s.2.1 44 c = 30) (eG : G = Go ++ gx) (fin : FIN s A B m F lo hi u how c d lv Go g' tg St) :
    ∃ (G1 : List scN) (how1 t1 : Nat) (g1 : Int32) (c1 : Nat), x = Int32.ofNat e ∧ 1 ≤ e ∧ e < 4400 ∧ PKA s lo hi e ∧ XS s (s.2.1 53) A B m (TU s (s.2.1 53) A B m dd).1 (TU s (s.2.1 53) A B m dd).2 lv G g e how1 G1 t1 g1 a c1 ∧ AFT s A B m F lo hi u e c1 lv G1 g1 t1 St := by
  obtain ⟨G1, t1, c1, g1, e1, e2, e3, h⟩ := xl
  obtain ⟨p49, pk, _, ch48⟩ := cha_hd ch e3 e1 e2
  rcases h with ⟨hr, h48, xs, hh⟩ | ⟨hr, xs, xr⟩
  · obtain ⟨k24, k25, n30, y, ey⟩ := XS_how xs
    refine ⟨G1, how, tg, g', d, e3, e1, e2, pk, xs, ?_⟩
    by_cases c24 : s.2.1 44 e = 24
    · rcases fin with f | f | f
      · have := k24 c24
        omega
      · exact Or.inr (Or.inl ⟨c24, f.2.1, f.2.2⟩)
      · have := k24 c24
        omega
    by_cases c25 : s.2.1 44 e = 25
    · rcases fin with f | f | ⟨_, R, lv0, r1, r2, r3, r4, r5⟩
      · have := k25 c25
        omega
      · have := k25 c25
        omega
      · exact Or.inr (Or.inr ⟨c25, c, R, lv0, Go, gx ++ y, p49, hc.1, hc.2, r1, r2, r3, r4, by rw [ey, eG, List.append_assoc], r5⟩)
    · have h0 : how = 0 := by
        by_cases z : how = 0
        · exact z
        · have := hh z
          by_cases z1 : how = 1
          · rw [if_pos z1] at this
            exact absurd this c24
          · rw [if_neg z1] at this
            exact absurd this c25
      subst h0
      rcases fin with ⟨_, u', eu, fu, bc⟩ | f | f
      · exact Or.inl ⟨c24, c25, fu + 1, c, p49, hc.1, hc.2, ch48, n30, e30, 0, 0, d, dd, [], g', Go, gx ++ y, hu, hd, ⟨h48, rfl, rfl, rfl, rfl⟩, by rw [ey, eG, List.append_assoc], Or.inl ⟨rfl, u', eu, bc⟩⟩
      · exact absurd f.1 (by decide)
      · exact absurd f.1 (by decide)
  · obtain ⟨k24, k25, n30, y, ey⟩ := XS_how xs
    refine ⟨G1, 0, t1, g1, c1, e3, e1, e2, pk, xs, ?_⟩
    refine Or.inl ⟨fun z => absurd (k24 z) (by decide), fun z => absurd (k25 z) (by decide), ?_⟩
    have eG1 : G1 = Go ++ (gx ++ y) := by rw [ey, eG, List.append_assoc]
    rcases fin with ⟨h0, u', eu, fu, bc⟩ | f | ⟨h2, R, lv0, r1, r2, r3, r4, fu, r5⟩
    · exact ⟨fu + 1, c, p49, hc.1, hc.2, ch48, n30, e30, how, tg, d, dd, r, g', Go, gx ++ y, hu, hd, xr, eG1, Or.inl ⟨h0, u', eu, bc⟩⟩
    · exact ⟨0 + 1, c, p49, hc.1, hc.2, ch48, n30, e30, how, tg, d, dd, r, g', Go, gx ++ y, hu, hd, xr, eG1, Or.inr (Or.inl f)⟩
    · exact ⟨fu + 1, c, p49, hc.1, hc.2, ch48, n30, e30, how, tg, d, dd, r, g', Go, gx ++ y, hu, hd, xr, eG1, Or.inr (Or.inr ⟨h2, R, lv0, r1, r2, r3, r4, r5⟩)⟩
theorem FE_s {f : Nat} (hf : f + 1 ≤ F) (ds : DSL s lo hi np) (all : ∀ j, j ≤ f → FEr s A B m F lo hi np j) : FEr s A B m F lo hi np (f + 1) := by
  have ih := all f (Nat.le_refl f)
  have hfF : f ≤ F := by omega
  intro lv G g n t g' a b St n1 n2 go pk tu ec
  rcases tu with tu | tu
  · obtain ⟨q, lv', h1, h2, h3⟩ := ih lv G g n t g' a b St n1 n2 go pk tu ec
    exact ⟨q, lv', fI_mono h1 (by omega), h2, h3⟩
  · obtain ⟨K, eK, hK, x⟩ := tu
    obtain ⟨fu, ec⟩ := ec
    have hn : 1 ≤ n ∧ n < 4400 := ⟨n1, n2⟩
    have leaf : K ≤ 5 → fI s (f + 1 + 2) n n := by
      intro h
      have := fP_d n2 eK (by omega) (by omega)
      rw [pka_5 pk eK h] at this
      exact fI_mono (fI_leaf this) (by omega)
    have hk : K = 0 ∨ K = 1 ∨ K = 2 ∨ K = 3 ∨ K = 4 ∨ K = 5 ∨ K = 6 ∨ K = 7 ∨ K = 8 ∨ K = 9 ∨ K = 10 ∨ K = 11 ∨ K = 12 ∨ K = 13 := by omega
    rcases hk with rfl | rfl | rfl | rfl | rfl | rfl | rfl | rfl | rfl | rfl | rfl | rfl | rfl | rfl
    · exact absurd x id
    · obtain ⟨r1, r2, r3, r4, r5⟩ := x
      subst r1 r2 r3
      exact ⟨n, lv, leaf (by decide), Nat.le_refl _, fu, hn, 1, eK, by decide, r4, r5, ec⟩
    · obtain ⟨r1, r2, r3, r4, r5⟩ := x
      subst r1 r2 r3
      exact ⟨n, lv, leaf (by decide), Nat.le_refl _, fu, hn, 2, eK, by decide, r4, r5, ec⟩
    · obtain ⟨r1, r2, r3, r4, r5⟩ := x
      subst r2 r3
      exact ⟨n, lv, leaf (by decide), Nat.le_refl _, fu, hn, 3, eK, by decide, t, r1, r4, r5, ec⟩
    · obtain ⟨j, y, r1, r2, r3, r4, r5, r6, r7, r8, r9, r10⟩ := x
      subst r3 r7 r8
      exact ⟨n, lv, leaf (by decide), Nat.le_refl _, fu, hn, 4, eK, by decide, j, y, r1, r4, r5, r6, r9, r10, ec⟩
    · obtain ⟨j, y, r1, r2, r3, r4, r5, r6, r7, r8, r9, r10⟩ := x
      subst r3 r7 r8
      exact ⟨n, lv, leaf (by decide), Nat.le_refl _, fu, hn, 5, eK, by decide, j, y, r1, r4, r5, r6, r9, r10, ec⟩
    · obtain ⟨l, tl, c, r1, r2, r3, q, r4, r5, r6, r7, r8⟩ := x
      subst r5 r6
      obtain ⟨e49, pkl⟩ := pka_45 pk eK (by decide) rfl r3 r1
      obtain ⟨q', lv', h1, h2, h3⟩ := ih lv G g l tl g' a c St r2 r3 go pkl q ⟨fu + 1, n, e49, n1, n2, pk, n30_of q, 6, eK, by decide, Or.inl ⟨Or.inl rfl, hn, 6, eK, by decide, tl, _, St, rfl, r4, r7, r8, ec⟩⟩
      refine ⟨q', lv', ?_, h2, h3⟩
      have := fP_d n2 eK (by decide) (by decide)
      rw [r1] at this
      exact fI_part this r3 r2 h1
    · obtain ⟨p, e, r1, r2, r3, r4, r5, r6, st⟩ := x
      obtain ⟨t0, g2, c1, q, ec'⟩ := STC (sw := true) (K := 7) (fu := fu) (St := St) hfF hn eK rfl pk r1 ⟨r3, r4⟩ r2 ⟨r5, r6⟩ (fun i' g3 St' pt => by
        refine ⟨hn, 7, eK, by decide, ?_⟩
        obtain ⟨p, p1, p2, p3, ⟨p4, tv, j, xx, St0, q1, q2, q3, q4, q5, q6, q7, q8, q9, q10, q11, q12⟩ | ⟨p4, tv, ta, pl, k, f0, fi, tf, t, St0, q1, q2, q3, q4, q5, q6, q7, q8, q9, q10, q11, q12, q13, q14, q15⟩⟩ := pt
        · subst q9 q10 q11 q12
          exact ⟨p, p1, p2, p3, Or.inl ⟨p4, tv, j, xx, _, q1, q2, q3, q4, q5, q6, q7, q8, ec⟩⟩
        · subst q12 q13 q14 q15
          exact ⟨p, p1, p2, p3, Or.inr ⟨p4, tv, ta, pl, k, f0, fi, tf, _, _, q1, q2, q3, q4, q5, q6, q7, q8, q9, q10, q11, ec⟩⟩) (fun z => absurd z (by decide)) st
      obtain ⟨_, pkr⟩ := pka_46 pk eK (by decide) rfl r6 r2
      obtain ⟨q', lv', h1, h2, h3⟩ := ih lv _ g e t0 g2 a c1 St r5 r6 go pkr q ⟨_, ec'⟩
      refine ⟨q', lv', ?_, h2, h3⟩
      have := fP_7 n2 (Or.inl eK)
      rw [r2] at this
      exact fI_part this r6 r5 h1
    · obtain ⟨k, m', c, ts, r1, r2, r3, r4, ag, af, eb, r5, r6⟩ := x
      subst eb
      obtain ⟨len, l1, l2, l3⟩ := pka_len pk eK (by decide) rfl (by decide)
      have el := AG_len _ _ _ _ _ _ _ ag l3
      subst el
      have ptb : ∀ St', St' = vE lv ts ++ St → PTf s A B m F lo hi fu c n lv G g' St' := by
        intro St' es
        refine ⟨hn, 8, eK, by decide, k, m', ts, St, es, r1, r2, r3, r4, ⟨af, l1⟩, l2, r5, ?_⟩
        rcases r6 with ⟨z1, z2, z3⟩ | ⟨z1, z2, cp, z3, z4, z5, z6⟩
        · subst z2
          exact Or.inl ⟨z1, z3, ec⟩
        · subst z4
          exact Or.inr ⟨z1, z2, cp, z3, z6, ec⟩
      cases ts with
      | nil =>
        obtain ⟨y1, y2, y3⟩ := ag
        subst y2 y3
        refine ⟨n, lv, ?_, Nat.le_refl _, fu, ptb St rfl⟩
        have := fP_d n2 eK (by decide) (by decide)
        rw [y1] at this
        exact fI_mono (fI_leaf this) (by omega)
      | cons v ts =>
        have rg := pka_rg pk
        obtain ⟨e, t0, g2, c', w1, w2, w3, w4, w5, w6⟩ := ARGC (lo := lo) (hi := hi) (f := fu) (K := 8) hn eK (by decide) pk hfF (pka_ch pk eK (by decide) rfl) (fun _ => pka_8 pk eK) (fun z => absurd z (by decide)) ag (Or.inl ⟨rfl, ptb _ rfl⟩)
        obtain ⟨q', lv', h1, h2, h3⟩ := ih lv _ g e t0 g2 a c' St w2 w3 go w4 w5 ⟨_, w6⟩
        refine ⟨q', lv', ?_, h2, h3⟩
        have := fP_d n2 eK (by decide) (by decide)
        rw [w1] at this
        exact fI_part this w3 w2 h1
    · obtain ⟨l, tg, r1, r2, r3, q, r4⟩ := x
      obtain ⟨e49, pkl⟩ := pka_45 pk eK (by decide) rfl r3 r1
      obtain ⟨f', ef, e30, es, xl⟩ := TU_30 q
      subst ef
      cases es with
      | nil => exact absurd xl.2.2.2.2 (by decide)
      | cons e r =>
        have et : t = rqT tg := r4
        subst et
        obtain ⟨G1, how1, t1, g1, c1, w1, w2, w3, w4, w5, w6⟩ := XLH (F := F) (u := 1) (dd := f') (Go := G) (gx := []) (St := St) (by omega) (by omega) xl (pka_ch pkl e30 (by decide) rfl) ⟨r2, r3⟩ e30 (List.append_nil _).symm (Or.inr (Or.inr ⟨rfl, n, lv, e49, n1, n2, ⟨rfl, go.2, eK⟩, fu, ec⟩))
        obtain ⟨q', lv', h1, h2, h3⟩ := FSt (all f' (by omega)) (by omega) (u := 1) (by omega) ds ⟨w2, w3⟩ (GO_up go (Nat.le_succ lv)) w4 w5 w6
        refine ⟨q', lv', ?_, by omega, h3⟩
        have := fP_9 n2 eK r1 r3
        rw [w1] at this
        exact fI_mono (fI_part this w3 w2 h1) (by omega)
    · obtain ⟨l, tl, k, f0, fi, tf, c, r1, r2, r3, q, r4, r5, r6, r7, r8, r9, r10⟩ := x
      subst r8
      obtain ⟨e49, pkl⟩ := pka_45 pk eK (by decide) rfl r3 r1
      obtain ⟨q', lv', h1, h2, h3⟩ := ih lv G g l tl g' a c St r2 r3 go pkl q ⟨fu + 1, n, e49, n1, n2, pk, n30_of q, 10, eK, by decide, Or.inl ⟨Or.inr (Or.inr (Or.inr (Or.inr (Or.inr (Or.inl ⟨rfl, EC_ns ec n2 eK⟩))))), hn, 10, eK, by decide, tl, k, f0, fi, tf, t, _, St, rfl, r4, r5, r6, r7, r9, r10, ec⟩⟩
      refine ⟨q', lv', ?_, h2, h3⟩
      have := fP_d n2 eK (by decide) (by decide)
      rw [r1] at this
      exact fI_part this r3 r2 h1
    · obtain ⟨l, tl, k, m', c, d, g1, ts, r1, r2, r3, ag, q, r4, r5, r6, r7, r8, r9, r10, r11, r12⟩ := x
      subst r10
      obtain ⟨e49, pkl⟩ := pka_46 pk eK (by decide) rfl r3 r1
      obtain ⟨len, l1, l2, l3⟩ := pka_len pk eK (by decide) rfl (by decide)
      have el := AG_len _ _ _ _ _ _ _ ag l3
      subst el
      have ptb : PTf s A B m F lo hi fu d n lv G g' ((tl, isPl (s.2.1 44 l), lv) :: (vE lv ts ++ St)) := ⟨hn, 11, eK, by decide, tl, k, m', t, _, ts, St, rfl, r4, r5, ⟨r6, l1⟩, r7, r8, ⟨r9, l2⟩, r11, r12, ec⟩
      have f11 := fP_11 n2 (Or.inl eK)
      cases ts with
      | nil =>
        obtain ⟨y1, y2, y3⟩ := ag
        subst y2 y3
        obtain ⟨q', lv', h1, h2, h3⟩ := ih lv G g1 l tl g' c d St r2 r3 go pkl q ⟨fu + 1, n, e49, n1, n2, pk, n30_of q, 11, eK, by decide, Or.inl ⟨Or.inr (Or.inr (Or.inr (Or.inr (Or.inr (Or.inr (Or.inr ⟨Or.inl rfl, r1⟩)))))), ptb⟩⟩
        refine ⟨q', lv', ?_, h2, h3⟩
        rw [y1, if_pos rfl, r1] at f11
        exact fI_part f11 r3 r2 h1
      | cons v ts =>
        obtain ⟨e, t0, g2, c', w1, w2, w3, w4, w5, w6⟩ := ARGC (lo := lo) (hi := hi) (f := fu) (K := 11) hn eK (by decide) pk hfF (pka_ch pk eK (by decide) rfl) (fun z => absurd z (by decide)) (fun z y h1 h2 => pka_11 pk eK z h1 h2) ag (Or.inr ⟨Or.inl rfl, l, tl, d, g', r1, r2, r3, TUF hfF q, ptb⟩)
        obtain ⟨q', lv', h1, h2, h3⟩ := ih lv _ g e t0 g2 a c' St w2 w3 go w4 w5 ⟨_, w6⟩
        refine ⟨q', lv', ?_, h2, h3⟩
        rw [w1, if_neg (ofn_0 w3 w2)] at f11
        exact fI_part f11 w3 w2 h1
    · obtain ⟨l, tl, m', c, d, g1, ts, r1, r2, r3, ag, q, r4, r5, r6, r7, r8, r9, r10, r11, r12⟩ := x
      subst r10
      subst r8
      obtain ⟨e49, pkl⟩ := pka_46 pk eK (by decide) rfl r3 r1
      obtain ⟨len, l1, l2, l3⟩ := pka_len pk eK (by decide) rfl (by decide)
      have el := AG_len _ _ _ _ _ _ _ ag l3
      subst el
      have ptb : PTf s A B m F lo hi fu d n lv G g' ((tl, isPl (s.2.1 44 l), lv) :: (vE lv ts ++ St)) := ⟨hn, 12, eK, by decide, tl, m', _, ts, St, rfl, r4, r5, r6, ⟨r7, l1⟩, l2, r9, r11, r12, ec⟩
      have f11 := fP_11 n2 (Or.inr eK)
      cases ts with
      | nil =>
        obtain ⟨y1, y2, y3⟩ := ag
        subst y2 y3
        obtain ⟨q', lv', h1, h2, h3⟩ := ih lv G g1 l tl g' c d St r2 r3 go pkl q ⟨fu + 1, n, e49, n1, n2, pk, n30_of q, 12, eK, by decide, Or.inl ⟨Or.inr (Or.inr (Or.inr (Or.inr (Or.inr (Or.inr (Or.inr ⟨Or.inr rfl, r1⟩)))))), ptb⟩⟩
        refine ⟨q', lv', ?_, h2, h3⟩
        rw [y1, if_pos rfl, r1] at f11
        exact fI_part f11 r3 r2 h1
      | cons v ts =>
        obtain ⟨e, t0, g2, c', w1, w2, w3, w4, w5, w6⟩ := ARGC (lo := lo) (hi := hi) (f := fu) (K := 12) hn eK (by decide) pk hfF (pka_ch pk eK (by decide) rfl) (fun z => absurd z (by decide)) (fun z y h1 h2 => pka_11 pk eK z h1 h2) ag (Or.inr ⟨Or.inr rfl, l, tl, d, g', r1, r2, r3, TUF hfF q, ptb⟩)
        obtain ⟨q', lv', h1, h2, h3⟩ := ih lv _ g e t0 g2 a c' St w2 w3 go w4 w5 ⟨_, w6⟩
        refine ⟨q', lv', ?_, h2, h3⟩
        rw [w1, if_neg (ofn_0 w3 w2)] at f11
        exact fI_part f11 w3 w2 h1
    · obtain ⟨l, r, c, d, g1, r1, r2, r3, r4, r5, r6, q, q2, r7, r8, r9, r10⟩ := x
      subst r7
      subst r8
      obtain ⟨e49, pkl⟩ := pka_45 pk eK (by decide) rfl r4 r1
      obtain ⟨q', lv', h1, h2, h3⟩ := ih lv G g l 1 g1 a c St r3 r4 go pkl q ⟨fu + 1, n, e49, n1, n2, pk, n30_of q, 13, eK, by decide, Or.inr (Or.inr (Or.inr (Or.inl ⟨r, 1, d, g', 1, Or.inl ⟨rfl, r1, r2⟩, r5, r6, TUF hfF q2, vl_1 _, hn, 13, eK, by decide, _, St, rfl, r9, r10, ec⟩)))⟩
      refine ⟨q', lv', ?_, h2, h3⟩
      have := fP_d n2 eK (by decide) (by decide)
      rw [r1] at this
      exact fI_part this r4 r3 h1
theorem FE (ds : DSL s lo hi np) : ∀ f, f ≤ F → ∀ j, j ≤ f → FEr s A B m F lo hi np j
  | 0, _, j, hj => by
    have : j = 0 := by omega
    subst this
    intro lv G g n t g' a b St _ _ _ _ tu
    exact absurd tu id
  | f + 1, hf, j, hj => by
    have all := FE ds f (by omega)
    by_cases h : j ≤ f
    · exact all j h
    · have : j = f + 1 := by omega
      subst this
      exact FE_s hf ds all
end FEM
