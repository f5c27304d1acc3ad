/-! A NEW ACTOR: the bodies stay. -/
section JNB
variable {sB : rS} {A B : Nat → Int32} {mi : Nat → Nat × Nat × Nat × Nat × Nat} {kc : kCi} {om om' : oMg} {ka ka' : kAp} {la : lAy} {ms : mSg} {N N' cn : Nat} {sg sg' sg2 : cS} {s s' s2 S1 : rS} {a b d e lo q0 J l t r i n p q k k2 f0 w P L sz lv : Nat} {xs : Nat → Int32} {zf : Value} {Z : Nat → Prop} {hB h h' : rm_H} {es : List Nat} {x : Nat → Nat → fDs} {D : Nat → Nat} {S S0 X : List stE} {v : Int64} {y : Int32}
variable {E Pq : Nat → Prop} {kk K tk : Nat} {em : Nat → Int64}
theorem it_a (it : iTm sB A B mi kc om ka la ms N cn sg s D x a d) (b12 : ka.2.2.2 < 12) (w' : wAl sB kc (omA om N ka.2.2.2 (kc kk).1 em (kc kk).2.1) (kaA ka kk) (laA la ka.2.2.2 (kc kk).1) (msA ms ka.2.2.2) (N + 1) cn sg' s' (fun c => if c = ka.2.2.2 then 0 else D c)) (ca : ∀ c j, c ≠ ka.2.2.2 → sg'.2.2.1 c j = sg.2.2.1 c j ∧ sg'.2.2.2.1 c j = sg.2.2.2.1 c j ∧ sg'.2.2.2.2 c j = sg.2.2.2.2 c j) (sob : SOK sg' ka.2.2.2 0) (r93b : s'.2.1 93 ka.2.2.2 = 0) (rI : ∀ p i, ¬ (89 ≤ p ∧ p ≤ 94 ∧ i = ka.2.2.2) → ¬ (p = 104 ∧ 6 * ka.2.2.2 ≤ i ∧ i < 6 * ka.2.2.2 + 6) → s'.2.1 p i = s.2.1 p i) (rL : ∀ p i, p ≠ 95 → s'.2.2 p i = s.2.2 p i) : iTm sB A B mi kc (omA om N ka.2.2.2 (kc kk).1 em (kc kk).2.1) (kaA ka kk) (laA la ka.2.2.2 (kc kk).1) (msA ms ka.2.2.2) (N + 1) cn sg' s' (fun c => if c = ka.2.2.2 then 0 else D c) x a d := by
  obtain ⟨⟨a12, d10, u1, u2, u3, u4⟩, _, fx, b3, r92, b8, gi, rl0, ob4⟩ := it_f it
  have it0 := it
  obtain ⟨w, bo, su, ⟨hD, ac, _⟩, vl, rg, nm, od, lk, so, r93, b1, b2, b3'⟩ := it0
  have El : ∀ j, j ≤ fL (x a d) → eLr om N a d (fL (x a d)) (x a) (fRe (x a d) j) := fun j hj => eL_R hj
  have Es : ∀ e j, e < d → j ≤ fL (x a e) → eLr om N a d (fL (x a d)) (x a) (fRe (x a e) j) := fun e j h1 h2 => Or.inr (Or.inr ⟨e, j, Or.inl ⟨h1, h2⟩, rfl⟩)
  have ab : a ≠ ka.2.2.2 := by omega
  have kx : kaX ka (kaA ka kk) := kaX_A
  have st : rSt a a (eLr om N a d (fL (x a d)) (x a)) (aFl ka.2.2.2) om.2.2.1 (omA om N ka.2.2.2 (kc kk).1 em (kc kk).2.1).2.2.1 := stA gi (fun y hy => eL_lt it (Nat.le_refl _) hy)
  have ch : ∀ l, l % 6 ≠ 1 ∨ l / 48 ≠ ka.2.2.2 → (omA om N ka.2.2.2 (kc kk).1 em (kc kk).2.1).1 l = om.1 l ∧ (omA om N ka.2.2.2 (kc kk).1 em (kc kk).2.1).2.1 l = om.2.1 l ∧ ¬ aFl ka.2.2.2 l := fun l hl => by
    have n1 : ¬ aFl ka.2.2.2 l := fun z => by
      rcases hl with y | y
      · exact y z.1
      · exact y z.2
    exact ⟨oA_W n1, oA_T n1, n1⟩
  have chN : ∀ i sl, (omA om N ka.2.2.2 (kc kk).1 em (kc kk).2.1).1 (pN i sl) = om.1 (pN i sl) ∧ (omA om N ka.2.2.2 (kc kk).1 em (kc kk).2.1).2.1 (pN i sl) = om.2.1 (pN i sl) ∧ ¬ aFl ka.2.2.2 (pN i sl) := fun i sl => ch _ (Or.inl (by unfold pN; omega))
  have chH : ∀ i, (omA om N ka.2.2.2 (kc kk).1 em (kc kk).2.1).1 (pH i) = om.1 (pH i) ∧ (omA om N ka.2.2.2 (kc kk).1 em (kc kk).2.1).2.1 (pH i) = om.2.1 (pH i) ∧ ¬ aFl ka.2.2.2 (pH i) := fun i => ch _ (Or.inl (by unfold pH; omega))
  have chS : ∀ c k, (omA om N ka.2.2.2 (kc kk).1 em (kc kk).2.1).1 (pS c k) = om.1 (pS c k) ∧ (omA om N ka.2.2.2 (kc kk).1 em (kc kk).2.1).2.1 (pS c k) = om.2.1 (pS c k) ∧ ¬ aFl ka.2.2.2 (pS c k) := fun c k => ch _ (Or.inl (by unfold pS; omega))
  have kno : ∀ c, c ≠ ka.2.2.2 → ∀ o, om.2.2.2.1 c o → (omA om N ka.2.2.2 (kc kk).1 em (kc kk).2.1).2.2.2.1 c o := fun c hc o h => ⟨hc, h⟩
  have eR : ∀ c, c ≠ ka.2.2.2 → (omA om N ka.2.2.2 (kc kk).1 em (kc kk).2.1).2.2.2.2 c = om.2.2.2.2 c := fun c hc => if_neg hc
  have r99 : s'.2.1 99 = s.2.1 99 := by funext i; exact rI 99 i (by omega) (by omega)
  have rl : ∀ p, p ≠ 95 → s'.2.2 p = s.2.2 p := fun p hp => by funext i; exact rL p i hp
  have ea : sg'.2.2.2.1 a = sg.2.2.2.1 a := by funext j; exact (ca a j ab).2.1
  have su' : fSu sB A B mi (omA om N ka.2.2.2 (kc kk).1 em (kc kk).2.1) (kaA ka kk) (N + 1) sg' s' a (x a) d := by
    intro e he
    obtain ⟨S1, t, hS, k⟩ := su e he
    have k0 := k
    obtain ⟨⟨p, q, b', j, z1, z2, z3, z4, z5, z6, z7, z8⟩, _⟩ := k0
    have lv := LV_PT z2
    rw [hS] at lv
    exact ⟨S1, t, hS, fOk_k (P := aFl ka.2.2.2) k (by rw [ea]) (by rw [ea]) (by rw [ea]) (fun i _ => by rw [ea]) (by rw [r99]) (by rw [rl 100 (by decide)]) (fun sl hsl => by rw [rl 101 (by decide)]) (fun k hk => by rw [rl 97 (by decide)]) (fun sl hsl => chN _ _) (chH _) (fun k hk => chS _ _) st (fun e' j h1 h2 => Es e' j (by omega) h2) (knK_of (kno a ab)) kx (eR a ab) ac (Nat.le_succ N) (fun y hy => lv.1 y (List.mem_cons_of_mem _ hy)) (Or.inl (fun y hy => lv.2 y hy))⟩
  have hEo : ∀ c, c ≠ a → ∀ y, y < N → om.2.2.1.2.2.2.2 y = c → eLr om N a d (fL (x a d)) (x a) y := fun c hc y h1 h2 => Or.inr (Or.inl ⟨h1, by rw [h2]; exact hc⟩)
  refine ⟨w', fun c hc hne => ?_, su', ⟨(if_neg ab).trans hD, by show a < ka.2.2.2 + 1; omega, d10⟩, ?_, ⟨fun j hj => ?_, fun j h1 hj => ?_⟩, nm, fun d' j1 j hd hj => ?_, ?_, ?_, ?_, b1, b2, b3'⟩
  · have hc : c < ka.2.2.2 + 1 := hc
    by_cases e : c = ka.2.2.2
    · left
      exact ⟨if_pos e, by rw [e]; exact sob, by rw [e]; exact r93b⟩
    · have eD : (fun c => if c = ka.2.2.2 then 0 else D c) c = D c := if_neg e
      rw [eD]
      refine aBd_t (a := ka.2.2.2) (E := eLr om N a d (fL (x a d)) (x a)) (Pq := aFl ka.2.2.2) gi (bo c (by omega) hne) e (by omega) (by omega) ?_ (ca c 13 e).1 ?_ (rI 93 c (by omega) (by omega)) r99 (rl 97 (by decide)) (rl 100 (by decide)) (rl 101 (by decide)) (fun l hl => ch l (by omega)) st (hEo c hne) kx (Nat.le_succ N) (kno c e) (eR c e)
      · funext j; exact (ca c j e).2.1
      · funext j; exact (ca c j e).2.2
  · obtain ⟨v1, v2, v3, v4⟩ := vl
    have kn : knK om (omA om N ka.2.2.2 (kc kk).1 em (kc kk).2.1) a := knK_of (kno a ab)
    have own : ∀ j, j ≤ fL (x a d) → (omA om N ka.2.2.2 (kc kk).1 em (kc kk).2.1).2.2.1.2.2.2.2 (fRe (x a d) j) = a := fun j hj => by rw [(st.1 _ (El j hj)).2.1]; exact (rg.1 j hj).2.2
    refine ⟨by rw [ea]; exact v1, fun y hy gy => ?_, ?_, ?_⟩
    · obtain ⟨w1, w2, w3, w4, w5⟩ := v2 y hy gy
      obtain ⟨n1, n2, n3⟩ := chN (10 * a + d) y.2.1
      have lv := nm.1.2 y hy
      have hr : (omA om N ka.2.2.2 (kc kk).1 em (kc kk).2.1).2.2.1.1 (pN (10 * a + d) y.2.1) = fRe (x a d) y.2.2.2 := by rw [oA_H n3]; exact w3
      exact ⟨vAl_k w1 kx kn w2 (Or.inl (by rw [hr]; exact (rg.1 _ lv).1)) (Or.inl (by rw [hr]; exact own _ lv)) n1 n2, by rw [n2]; exact w2, hr, by rw [ea, n1]; exact w4, by rw [rl 101 (by decide), n1]; exact w5⟩
    · obtain ⟨tt, t1, t2, t3, t4, t5, t6, t7, t8⟩ := v3
      obtain ⟨n1, n2, n3⟩ := chH (10 * a + d)
      have hr : (omA om N ka.2.2.2 (kc kk).1 em (kc kk).2.1).2.2.1.1 (pH (10 * a + d)) = fRe (x a d) 0 := by rw [oA_H n3]; exact t5
      exact ⟨tt, t1, vAl_k t2 kx kn t4 (Or.inl (by rw [hr]; exact (rg.1 0 (Nat.zero_le _)).1)) (Or.inl (by rw [hr]; exact own 0 (Nat.zero_le _))) n1 n2, by rw [n1]; exact t3, by rw [n2]; exact t4, hr, by rw [ea, n1]; exact t6, by rw [rl 100 (by decide), n1]; exact t7, fun z => by rw [eR a ab]; exact t8 z⟩
    · refine sVl_m _ v4 (fun y j hy hj pe => ?_)
      obtain ⟨w1, w2, w3, w4, w6⟩ := pe
      obtain ⟨n1, n2, n3⟩ := chS a (fQ (x a d) + j)
      have hH : (omA om N ka.2.2.2 (kc kk).1 em (kc kk).2.1).2.2.1.1 (pS a (fQ (x a d) + j)) = om.2.2.1.1 (pS a (fQ (x a d) + j)) := oA_H n3
      refine ⟨by rw [n1]; exact ⟨vTy_k w1.1 kx, fun z => ⟨ab, w1.2 z⟩⟩, by rw [ea, n1]; exact w2, by rw [rl 97 (by decide), n1]; exact w3, ?_, w6.1, fun z1 z2 => by rw [eR a ab]; exact w6.2 z1 z2⟩
      rcases w4 with ⟨v1, v2⟩ | ⟨v1, v2, v3, v4, v5⟩
      · exact Or.inl ⟨by rw [n2]; exact v1, fun z => by rw [hH]; exact v2 z⟩
      · refine Or.inr ⟨v1, v2, v3, by rw [n2]; exact v4, fun z => ?_⟩
        rw [n1] at z ⊢
        obtain ⟨s1, s2, lx, s3, s4, s5, s6, s7⟩ := v5 z
        have nx : (omA om N ka.2.2.2 (kc kk).1 em (kc kk).2.1).1 lx = om.1 lx ∧ (omA om N ka.2.2.2 (kc kk).1 em (kc kk).2.1).2.1 lx = om.2.1 lx ∧ ¬ aFl ka.2.2.2 lx := ch lx (by unfold lOf at s3; omega)
        have et : tgF (omA om N ka.2.2.2 (kc kk).1 em (kc kk).2.1).2.1 (omA om N ka.2.2.2 (kc kk).1 em (kc kk).2.1).1 lx = tgF om.2.1 om.1 lx := by unfold tgF; rw [nx.1, nx.2.1]
        exact ⟨s1, s2, lx, s3, by rw [et]; exact s4, by rw [nx.2.1]; exact s5, by rw [oA_H nx.2.2]; exact s6, by rw [et]; exact s7⟩
  · obtain ⟨r1, r2, r3⟩ := rg.1 j hj
    exact ⟨r1, Nat.lt_succ_of_lt r2, by rw [(st.1 _ (El j hj)).2.1]; exact r3⟩
  · exact rg.2 j h1 hj
  · exact od d' j1 j hd hj
  · rcases lk with ⟨h0, f1, f2, f3, f4⟩ | ⟨d', hd, lk⟩
    · left
      exact ⟨h0, f1, f2, by rw [eR a ab]; exact f3, by rw [kx.2.1 a ac]; exact f4⟩
    · exact Or.inr ⟨d', hd, lk⟩
  · obtain ⟨z1, z2, z3, z4⟩ := so
    exact ⟨by rw [(ca a 13 ab).1]; exact z1, by rw [(ca a 13 ab).2.2]; exact z2, by rw [(ca a 13 ab).2.2]; exact z3, by rw [(ca a 13 ab).2.2]; exact z4⟩
  · rw [rI 93 a (by omega) (by omega)]
    exact r93
end JNB
