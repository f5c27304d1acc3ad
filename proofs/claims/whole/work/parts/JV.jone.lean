/-! ONE INSTRUCTION BY BOTH. -/
/-- what a program that was built gives -/
def sTc (sB : rS) (A B : Nat → Int32) (mi : Nat → Nat × Nat × Nat × Nat × Nat) (kc : kCi) (hB : rm_H) (Z : Nat → Prop) (P : Nat) (es : List Nat) : Prop := kFd sB kc ∧ mKd sB ∧ kFr sB kc ∧ mSd sB ∧ mNu hB Z es ∧ (∀ m, mRl sB m → cEe sB A B mi hB Z es m) ∧ PBp hB Z P ∧ (∀ q kk m : Nat, q < 4400 → sB.2.1 44 q = Int32.ofNat 8 → sB.2.1 53 q = Int32.ofNat kk → kRl sB kk → sB.2.1 65 kk = Int32.ofNat m → m < 72 → mRl sB m ∧ sB.2.1 70 m = 0 ∧ sB.2.1 75 m = -1 ∧ sB.2.1 71 m = Int32.ofNat kk ∧ (sB.2.1 66 kk = 0 → ∃ em, ∀ M, es[m]? = some M → kNw sB kc hB Z M kk em) ∧ (sB.2.1 66 kk = 1 → (∀ ps, pmT sB m ps → ∀ q' ∈ ps, sdT q' = true) ∧ ∃ em, ∀ M, es[m]? = some M → kNa sB kc hB Z M kk em))
section JVO
variable {sB : rS} {A B : Nat → Int32} {mi : Nat → Nat × Nat × Nat × Nat × Nat} {kc : kCi} {om om' : oMg} {ka ka' : kAp} {la : lAy} {ms : mSg} {N N' cn : Nat} {sg sg' sg2 : cS} {s s' s2 S1 : rS} {a b d e lo q0 J l t r i n p q k k2 f0 w P L sz lv : Nat} {xs : Nat → Int32} {zf : Value} {Z : Nat → Prop} {hB h h' : rm_H} {es : List Nat} {x : Nat → Nat → fDs} {D : Nat → Nat} {S S0 X : List stE} {v : Int64} {y : Int32}
theorem mRl_t {k0 m : Nat} {so : Int32} {c : Int64} (sk : mKd sB) (mt : mtT sB k0 so c m) : mRl sB m := by
  obtain ⟨m0, m1, y1, y2, y3, y4, y5, _, _, k8⟩ := mt
  exact ⟨_, m0, m1, k8, y1, y2, by omega, y4, y5⟩
theorem J_one (cb : CB hB Z P A B sz es) (rh : RH (.ref P) n sg Z hB h) (hn : ka.2.2.2 ≤ n) (it : iTm sB A B mi kc om ka la ms N cn sg s D x a d) (n7 : sg.2.2.2.1 a 7 d = Int32.ofNat (p + 1)) (hw : 10000 ≤ w) (st : sTc sB A B mi kc hB Z P es) (cn6 : cn ≤ 1000000) (pt : PT sB A B (fMe (x a d)) (mi (fMe (x a d))).1 (mi (fMe (x a d))).2.1 (mi (fMe (x a d))).2.2.1 p q (fL (x a d)) (fG (x a d)) (fGn (x a d)) (fSt (x a d))) (r99 : s.2.1 99 (10 * a + d) = Int32.ofNat q) : jEx sB A B mi kc L xs zf w P Z hB k k2 n cn a d p q sg h s := by
  obtain ⟨kf, sk, kfr, msd, mnu, ces, pb, kmk⟩ := st
  have pt0 := pt
  obtain ⟨f, ⟨q1, q4⟩, K, eK, hK, y⟩ := pt
  have hk : K = 0 ∨ K = 1 ∨ K = 2 ∨ K = 3 ∨ K = 4 ∨ K = 5 ∨ K = 6 ∨ K = 7 ∨ K = 8 ∨ K = 9 ∨ K = 10 ∨ K = 11 ∨ K = 12 ∨ K = 13 ∨ K = 14 ∨ K = 15 ∨ K = 16 ∨ K = 17 ∨ K = 18 ∨ K = 19 ∨ K = 20 ∨ K = 21 ∨ K = 22 ∨ K = 23 ∨ K = 24 ∨ K = 25 ∨ K = 26 ∨ K = 27 ∨ K = 28 ∨ K = 29 ∨ K = 30 ∨ K = 31 := by omega
  rcases hk with rfl | rfl | rfl | rfl | rfl | rfl | rfl | rfl | rfl | rfl | rfl | rfl | rfl | rfl | rfl | rfl | rfl | rfl | rfl | rfl | rfl | rfl | rfl | rfl | rfl | rfl | rfl | rfl | rfl | rfl | rfl | rfl
  · exact absurd y id
  · exact J_1 cb rh hn it n7 q4 hw eK y.1 y.2.1 ⟨f, y.2.2⟩
  · exact J_2 cb rh hn it n7 q4 hw eK y.1 y.2.1 ⟨f, y.2.2⟩
  · obtain ⟨t, th, hA, _, e⟩ := y
    exact J_3 cb rh hn it n7 q4 hw eK th hA ⟨f, e⟩
  · obtain ⟨j, x', hG, h53, gy, hl, hA, hB', e⟩ := y
    exact J_4 cb rh hn it n7 q4 hw eK hG h53 gy hl hA hB' ⟨f, e⟩
  · obtain ⟨j, x', hG, h53, gy, hl, hA, hB', e⟩ := y
    exact J_5 cb rh hn it n7 q4 hw eK hG h53 gy hl hA hB' ⟨f, e⟩
  · obtain ⟨t, pl, St0, eS, ht, hA, _, e⟩ := y
    exact J_6 cb rh hn it n7 q4 hw eK eS ht hA ⟨f, e⟩
  · obtain ⟨p0, e45, _, hp0, alt⟩ := y
    rcases alt with ⟨e4, tv, j, x', St0, eS, hG, h53, gy, yl, fit, hA, hB', e⟩ | ⟨e10, tv, ta, pl, k0, f0, f', tf, t, St0, eS, ah, fd, h53, c3, c4, fit, safe, hb3, hA, hB', e⟩
    · exact J_7n cb rh hn it n7 q4 hw eK e45 hp0 e4 eS hG h53 (gy rfl) yl fit hA hB' ⟨f, e⟩
    · exact J_7f cb rh hn it n7 q4 hw kf eK e45 hp0 e10 eS ah fd h53 c3 c4 fit safe (hb3 rfl) hA hB' ⟨f, e⟩
  · obtain ⟨kk, m', ts, St0, eS, h53, k8, h65, m72, ⟨af, _⟩, h52, hB', alt⟩ := y
    obtain ⟨mrl, h70, h75, e71, no, na⟩ := kmk q kk m' q4 eK h53 k8 h65 m72
    rcases alt with ⟨h66, hA, e⟩ | ⟨h66, hA, cp, cp5, hcp, e⟩
    · obtain ⟨sd, em, hem⟩ := na h66
      exact J_8a cb rh hn it n7 q4 hw (ces m' mrl) pb kfr mnu hem sd mrl h70 e71 eK eS h53 k8.1 h65 m72 af h52 h66 hA hB' ⟨f, e⟩
    · obtain ⟨em, hem⟩ := no h66
      exact J_8o cb rh hn it n7 q4 hw (ces m' mrl) pb hem h70 h75 e71 eK eS h53 k8.1 h65 m72 af h66 hA hB' cp5 hcp ⟨f, e⟩
  · exact absurd y id
  · obtain ⟨tl, k0, f0, f', tf, t, pl, St0, eS, ah, fd, hb, h53, hA, hB', e⟩ := y
    exact J_10 cb rh hn it n7 q4 hw kf eK eS ah fd hb h53 hA hB' ⟨f, e⟩
  · obtain ⟨tl, k0, m', t, pl, ts, St0, eS, ah, mt, ⟨af, _⟩, clt, rs, h53, hA, hB', e⟩ := y
    exact J_11 cb rh hn it n7 q4 hw sk (ces m' (mRl_t sk mt)) eK eS ah mt af clt rs h53.1 hA hB' ⟨f, e⟩
  · obtain ⟨tl, m', pl, ts, St0, eS, t8, t5, mt, ⟨af, _⟩, h52, h53, hA, hB', e⟩ := y
    exact J_12 cb rh hn it n7 q4 hw sk kfr msd mnu (ces m' (mRl_t sk mt)) pt0 r99 eK eS t8 t5 mt af h52 h53 hA hB' ⟨f, e⟩
  · obtain ⟨pl, St0, eS, hA, op, e⟩ := y
    exact J_13 cb rh hn it n7 q4 hw eK eS hA op ⟨f, e⟩
  · exact absurd y id
  · exact absurd y id
  · exact absurd y id
  · exact absurd y id
  · exact absurd y id
  · exact absurd y id
  · obtain ⟨tv, td, sl, St0, eS, ty, fit, h53, s16, ng, hA, hB', u, e⟩ := y
    exact J_20 cb rh hn it n7 q4 hw eK eS ty fit h53 s16 ng hA hB' ⟨f, e⟩
  · obtain ⟨u, dd, r, d1, y1, g2, pl, St0, hu, hdd, pk, eS, e46, r1, r2, hA, tu, alt⟩ := y
    refine J_21 cb rh hn it n7 q4 hw eK q1 hu hdd pk eS e46 r1 r2 hA tu ?_
    rcases alt with ⟨z1, z2, z3⟩ | ⟨e, y2, b1, g3, z1, z2, z3, z4, z5, z6, z7, z8⟩
    · exact Or.inl ⟨z1, z2, ⟨f, z3⟩⟩
    · exact Or.inr ⟨e, y2, b1, g3, z1, z2, z3, z4, z5, z6, z7, ⟨f, z8⟩⟩
  · obtain ⟨u, dd, l0, r, a0, d1, y1, g0, g2, pl, St0, hu, hdd, pk, eS, e45, l1, l2, e46, r1, r2, hA, hB', tuc, tu, a20, b20, hg, e⟩ := y
    exact J_22 cb rh hn it n7 q4 hw eK q1 hu hdd pk eS e45 l1 l2 e46 r1 r2 hA hB' tuc tu a20 b20 hg ⟨f, e⟩
  · obtain ⟨pl, St0, eS, hA, _, u, e⟩ := y
    exact J_23 cb rh hn it n7 q4 hw eK cn6 eS hA ⟨f, e⟩
  · obtain ⟨tv, tr, eS, lv0, ty, fit, hA, _⟩ := y
    exact J_24 cb rh hn it n7 q4 hw eK eS ty fit hA
  · obtain ⟨tg, c, R, lv0, Go, gx, St0, eS, hA, _, e49, _, c4, e49', _, R4, ⟨elv, glv, k9⟩, eG, e⟩ := y
    exact J_25 cb rh hn it n7 q4 hw eK eS hA e49 c4 e49' R4 elv glv k9 eG ⟨f, e⟩
  · obtain ⟨p0, e45, _, hp0, alt⟩ := y
    rcases alt with ⟨e4, tv, j, x', St0, eS, hG, h53, _, yl, fit, hA, hB', u, e⟩ | ⟨e10, tv, ta, pl, k0, f0, f', tf, t, St0, eS, ah, fd, h53, c3, c4, fit, safe, _, hA, hB', u, e⟩
    · exact J_26n cb rh hn it n7 q4 hw eK e45 hp0 e4 eS hG h53 yl fit hA hB' ⟨f, e⟩
    · exact J_26f cb rh hn it n7 q4 hw kf eK e45 hp0 e10 eS ah fd h53 c3 c4 fit safe hA hB' ⟨f, e⟩
  · obtain ⟨t, pl, St0, eS, hA, _, u, e⟩ := y
    exact J_27 cb rh hn it n7 q4 hw eK eS hA ⟨f, e⟩
  · exact absurd y id
  · exact absurd y id
  · exact absurd y id
  · obtain ⟨_, eS, h54, h75, hA, kk, kk8, e71, hB'⟩ := y
    exact J_31 cb rh hn it n7 q4 hw eK eS h54 h75 hA kk8 e71 hB'
/-- AN INSTRUCTION OF AN ACTOR THAT HAS ONE TO DO -/
theorem J_in (cb : CB hB Z P A B sz es) (rh : RH (.ref P) n sg Z hB h) (hn : ka.2.2.2 ≤ n) (ru : rUn sB A B mi kc om ka la ms N cn sg s D x) (ac : a < ka.2.2.2) (act : D a ≠ 0 ∨ ms.1 a ≠ 0) (hw : 10000 ≤ w) (st : sTc sB A B mi kc hB Z P es) (cn6 : cn ≤ 1000000) : jIn sB A B mi kc L xs zf w P Z hB k k2 n cn a sg h s := by
  by_cases hD : D a = 0
  · obtain ⟨wt, ewt⟩ : ∃ wt, ms.1 a = wt + 1 := ⟨ms.1 a - 1, by omega⟩
    exact J_tk cb rh hn ru ac hD ewt hw st.2.2.1 st.2.2.2.2.1 st.2.2.2.2.2.1
  · obtain ⟨d, hd⟩ : ∃ d, D a = d + 1 := ⟨D a - 1, by omega⟩
    obtain ⟨p, q, b, j, pj, pt, h7, h99, q4, it⟩ := it_of ru ac hd
    have d10 : d < 10 := it.2.2.2.1.2.2
    have a12 : a < 12 := (it_f it).1.1
    obtain ⟨_, wac, _⟩ := ru.1.2.2.2.2.2 a ac
    have h3 : sg.2.2.1 a 3 = Int32.ofNat (d + 1) := by rw [← hd]; exact wac.2.2.1.1
    have h92 : s.2.1 92 a = Int32.ofNat (d + 1) := by rw [← hd]; exact wac.2.2.1.2
    obtain ⟨o, hA, ho⟩ := PT_op pt
    obtain ⟨h1, k1, k2', k3, k4⟩ := k_ins (L := L) (xs := xs) (zf := zf) (w := w) (k := k + 7) cb rh (by omega) h3 (by omega) h7 pj hA ho (by omega)
    have r99 : (sDn s a).2.1 99 (10 * a + d) = Int32.ofNat q := by
      show (rs_wA (rs_w s 80 (s.1 80 + 1)) 90 a (s.2.1 90 a + 1)).2.1 99 (10 * a + d) = _
      rw [wA_get, if_neg (by omega)]
      exact h99
    have n7 : (sI1 sg a d p).2.2.2.1 a 7 d = Int32.ofNat (p + 1) := by
      show (if a = a ∧ 7 = 7 then upd _ d (Int32.ofNat (p + 1)) else _) d = _
      rw [if_pos ⟨rfl, rfl⟩, upd_eq']
    obtain ⟨h', n', sg', s', why, om', ka', la', ms', N', D', x', e1, e2, e3, e4, e5, e6, e7, e8⟩ := J_one (L := L) (xs := xs) (zf := zf) (k := k) (k2 := k2) cb k1 hn it n7 hw st cn6 pt r99
    have hr := r_ins a12 d10 h92 h99 e2
    refine ⟨h', n', sg', _, om', ka', la', ms', N', D', x', k4 h' e1, hr, e3, e4, e5, e6, e7, ?_⟩
    have pe : pot n (sI1 sg a d p) = pot n sg := pot_e n (fun _ _ => rfl)
    obtain ⟨z1, z2⟩ := e8
    rw [pe, k3] at z1
    rw [pe, k2'] at z2
    exact ⟨z1, z2⟩
end JVO
