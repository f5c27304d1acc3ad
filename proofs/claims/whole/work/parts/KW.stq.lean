/-! ALL STATIC FACTS OUT OF A BUILD. -/
section STW
variable {L : Nat} {xs : Nat → Int32} {w P : Nat} {h : rm_H} {s : rS} {Z : Nat → Prop}
theorem stQ_of (bl : BLT L xs w P h s) (zd : zDj h Z P) (wd : wdR (s.2.2 39)) : ∃ (A B : Nat → Int32) (mi : Nat → Nat × Nat × Nat × Nat × Nat) (kc : kCi) (es : List Nat) (sz kk mm : Nat), stQ L xs s A B mi kc h Z P es sz kk mm := by
  obtain ⟨cx, gn, kl, ml, vs, u2, cap, ca, oa, A, B, A0, c8, je, bj, hP, v1, v2, v6, ⟨v9, v10, v11⟩, ⟨ar9, c9, e9⟩, e10, ⟨l72, ⟨kk, hkk, m2, m3⟩, m4, tk⟩, ⟨k1, k2, k3, k4, k5, k6, k7⟩, eA, eB, mq⟩ := BLT_all bl
  obtain ⟨kc, kq, k9⟩ := kc_of je
  obtain ⟨mi, mq⟩ := mi_of mq
  obtain ⟨mm, mn⟩ := mMn_of zd hP v6 je bj kq mq hkk m2 m3
  refine ⟨A, B, mi, kc, ml, u2, kk, mm, sT_of zd hP je bj kq k9 mq (fun m M i q lv G g St hM pt => mQ_len (mq m M hM) tk pt), mNv_of zd bj mq, CB_of zd hP v2 v9 v10 v11 e10 k1 k2 k3 k4 k5 k6 k7 eA eB, kBa_of zd je kq k9, mn, kSh_of zd je hP v1 e9 kq k9, mSh_of zd je bj kq wd (fun k m0 m hk h1 h2 h3 h4 => ?_), pgW_of zd bl, kl.length, je.2.2.2.1, je.2.2.1, hkk⟩
  obtain ⟨_, M, _, hM, _⟩ := mRl_M zd je kq h4
  exact m4 k m0 m hk (List.getElem?_eq_some_iff.mp hM).1 h2 h1 h3
end STW
