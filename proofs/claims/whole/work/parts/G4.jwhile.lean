/-! BOTH CHECK: while. -/
/-- the bits of what is seen -/
def mkM (G : List scN) : Nat → Int32
  | 0 => 0
  | k + 1 => mkM G k ||| bt (gAt G k).2.1
/-- what is refused when a name is used up in a loop -/
def whF (G : List scN) (g2 g : Int32) (k : Nat) : Int32 := if ∀ j, j < k → g2 &&& (g ^^^ (-1)) &&& bt (gAt G j).2.1 = 0 then 0 else 7
section JWH
variable {L : Nat} {xs : Nat → Int32} {zf : Value} {w C Sc M Pl Ph LO HI nk m lv n p q i d lo hi k k2 z z2 W ke kr ke2 kr2 l px q0 q1 pl ph how pb nb lo1 hi1 lo2 hi2 : Nat} {cx : Nat → Nat} {hB h h1 h2 : rm_H} {s0 s s1 s2 : rS} {pt vr gn gn1 a b a1 b1 x y rc t v g g2 : Int32} {mv : Value} {ds dx kl ml es : List Nat} {G gx : List scN} {u u1 u2 : Nat → Nat} {A B A1 B1 : Nat → Int32} {f f' : Nat → Int64} {sl ty sl' ty' : Nat → Int32}
theorem mkM_bi (hs : ∀ (i : Nat) (X : scN), G[i]? = some X → X.2.1 < 16) : ∀ k, k ≤ G.length → ∀ i, i < 32 → (bi (mkM G k) i = true ↔ ∃ j, j < k ∧ (gAt G j).2.1 = i)
  | 0, _, i, _ => ⟨fun z => (by rw [show mkM G 0 = 0 from rfl, bi_0] at z; cases z), fun ⟨j, hj, _⟩ => absurd hj (by omega)⟩
  | k + 1, hk, i, hi => by
    have ih := mkM_bi hs k (by omega) i hi
    have hX : G[k]? = some (G[k]'(by omega)) := List.getElem?_eq_getElem (by omega)
    have h16 : (gAt G k).2.1 < 16 := by rw [gAt_of hX]; exact hs k _ hX
    rw [show mkM G (k + 1) = mkM G k ||| bt (gAt G k).2.1 from rfl, bi_or, bi_bt _ h16 i hi, Bool.or_eq_true, ih, decide_eq_true_iff]
    constructor
    · rintro (⟨j, j1, j2⟩ | q)
      · exact ⟨j, by omega, j2⟩
      · exact ⟨k, by omega, q.symm⟩
    · rintro ⟨j, j1, j2⟩
      by_cases q : j = k
      · subst q
        exact Or.inr j2.symm
      · exact Or.inl ⟨j, by omega, j2⟩
theorem wh_iff (hs : ∀ (i : Nat) (X : scN), G[i]? = some X → X.2.1 < 16) : (mkM G G.length &&& g2) &&& (g ^^^ (-1)) = 0 ↔ ∀ j, j < G.length → g2 &&& (g ^^^ (-1)) &&& bt (gAt G j).2.1 = 0 := by
  have h16 : ∀ j, j < G.length → (gAt G j).2.1 < 16 := fun j hj => by
    have hX : G[j]? = some (G[j]'hj) := List.getElem?_eq_getElem hj
    rw [gAt_of hX]
    exact hs j _ hX
  constructor
  · intro e j hj
    have q := bi_z.mp e _ (show (gAt G j).2.1 < 32 by have := h16 j hj; omega)
    have mm := (mkM_bi hs G.length (Nat.le_refl _) (gAt G j).2.1 (by have := h16 j hj; omega)).mpr ⟨j, hj, rfl⟩
    rw [bi_and, bi_and, mm, Bool.true_and] at q
    rw [bt_c (h16 j hj), bi_and]
    exact q
  · intro e
    refine bi_z.mpr (fun i hi => ?_)
    rw [bi_and, bi_and]
    by_cases c : bi (mkM G G.length) i = true
    · obtain ⟨j, j1, j2⟩ := (mkM_bi hs G.length (Nat.le_refl _) i hi).mp c
      have q := (bt_c (h16 j j1)).mp (e j j1)
      rw [j2, bi_and] at q
      rw [c, Bool.true_and]
      exact q
    · rw [Bool.not_eq_true] at c
      rw [c, Bool.false_and, Bool.false_and]
theorem whF_p (k : Nat) : whF G g2 g k = 0 ∨ 0 < (whF G g2 g k).toInt := by
  unfold whF
  split
  · exact Or.inl rfl
  · exact Or.inr (by decide)
/-- the class's mask -/
theorem ck_214 (kh : KH L xs cx C Sc M pt vr mv h ds (gN G) (gSl G) (gTp G) gn rc a b u A B) (dl : ds.length = G.length) (hw : 200 ≤ w) : (dcV L xs (dM L xs zf w (k + 1)) 214 [13] (some C) [] h).bind dxI = some (mkM G G.length, h) := by
  have l16 := kh.2.2.2.1.1
  have lp : ∀ (r i N : Nat), i + r = ds.length → r < N → b214_4 L xs zf (dM L xs zf w k) w N (some C) (mkM G i) (Int32.ofNat i) h = some (some (.int (mkM G G.length)), h) := by
    intro r
    induction r with
    | zero =>
      intro i N hi hN
      obtain ⟨N, rfl⟩ : ∃ M, N = M + 1 := ⟨N - 1, by omega⟩
      rw [b214_4]
      refine bsq (ck_3 kh) (itq ?_ ?_)
      · rw [f2_ge, of_int (by omega), of_int (by omega)]
        simp
        omega
      · rw [show i = G.length from by omega]
        rfl
    | succ r ih =>
      intro i N hi hN
      obtain ⟨N, rfl⟩ : ∃ M, N = M + 1 := ⟨N - 1, by omega⟩
      have hd : ds[i]? = some (ds[i]'(by omega)) := List.getElem?_eq_getElem (by omega)
      rw [b214_4]
      refine bsq (ck_3 kh) (inq ?_ (bsq (ck_1 kh) (bsq (ck_at kh hd) (bsq (fd_I (kh.2.2.2.2.1 i _ hd).2.1 (by decide)) ?_))))
      · rw [f2_ge, of_int (by omega), of_int (by omega)]
        simp
        omega
      · rw [show Int32.ofNat i + 1 = Int32.ofNat (i + 1) from of_add i 1]
        exact ih (i + 1) N (by omega) (by omega)
  rw [ck_v kh, e214]
  show (b214_0 L xs zf (dM L xs zf w k) w (some C) h).bind dxI = _
  refine bsq (a := (some (.int (mkM G G.length)), h)) ?_ rfl
  unfold b214_0
  exact lp ds.length 0 w (by omega) (by omega)
theorem r_305f (hs : 0 < (s.1 57).toInt) (x y : Int32) : rM w (k + 1) 305 [.ref 36, .int x, .int y] s = some (none, s) := by
  rw [y305]
  show s305_0 (rM w k) w x y s = _
  unfold s305_0
  exact inq (le_ps hs) rfl
/-- the reference's loop -/
theorem r_369l (rk : rK s0 s) (rg : RG s G lv g2 m) (h57 : s.1 57 = 0) (l16 : G.length ≤ 16) (hn : n < 4400) (i3 : Int32) : ∀ (r i N : Nat), i + r = G.length → r < N → s369_60 (rM w (k + 1)) w N (Int32.ofNat n) g i3 (Int32.ofNat i) (rzS s (whF G g2 g i) (s0.2.1 50 n)) = some (none, rs_w (rzS s (whF G g2 g G.length) (s0.2.1 50 n)) 64 i3) := by
  have st : ∀ x y, (rzS s x y).1 62 = Int32.ofNat G.length ∧ (rzS s x y).1 64 = g2 ∧ (rzS s x y).2 = s.2 := by
    intro x y
    unfold rzS
    split
    · exact ⟨rg.1, rg.2.2.1, rfl⟩
    · unfold rfS
      rw [w_ne _ _ (by decide), w_ne _ _ (by decide), w_ne _ _ (by decide), w_ne _ _ (by decide)]
      exact ⟨rg.1, rg.2.2.1, rfl⟩
  intro r
  induction r with
  | zero =>
    intro i N hi hN
    obtain ⟨N, rfl⟩ : ∃ M, N = M + 1 := ⟨N - 1, by omega⟩
    have ei : i = G.length := by omega
    subst ei
    rw [s369_60]
    refine itq ?_ (bsq (a := rs_w (rzS s (whF G g2 g G.length) (s0.2.1 50 n)) 64 i3) rfl rfl)
    rw [(st _ _).1, f2_ge]
    simp
  | succ r ih =>
    intro i N hi hN
    obtain ⟨N, rfl⟩ : ∃ M, N = M + 1 := ⟨N - 1, by omega⟩
    have hX : G[i]? = some (G[i]'(by omega)) := List.getElem?_eq_getElem (by omega)
    have g83 : rs_aI (rzS s (whF G g2 g i) (s0.2.1 50 n)) 83 (Int32.ofNat i) = some (Int32.ofNat (gAt G i).2.1) := (aI_at (i := i) (n := 16) (by decide) rfl (by omega) (by decide)).trans (by rw [(st _ _).2.2, (rg.2.2.2.2 i _ hX).2.1, gAt_of hX])
    have nxt := ih (i + 1) N (by omega) (by omega)
    rw [s369_60]
    refine inq ?_ (bsq g83 ?_)
    · rw [(st _ _).1, f2_ge, of_int (by omega), of_int (by omega)]
      simp
      omega
    · rw [(st _ _).2.1]
      show (if mx_f1 .eq (g2 &&& (g ^^^ (-1)) &&& bt (gAt G i).2.1) = true then _ else _) = _
      by_cases c : g2 &&& (g ^^^ (-1)) &&& bt (gAt G i).2.1 = 0
      · have ew : whF G g2 g (i + 1) = whF G g2 g i := by
          unfold whF
          by_cases c2 : ∀ j, j < i → g2 &&& (g ^^^ (-1)) &&& bt (gAt G j).2.1 = 0
          · rw [if_pos c2, if_pos (fun j hj => by
              by_cases q : j = i
              · subst q
                exact c
              · exact c2 j (by omega))]
          · rw [if_neg c2, if_neg (fun q => c2 (fun j hj => q j (by omega)))]
        rw [ew] at nxt
        refine itq (decide_eq_true c) ?_
        unfold s369_102
        rw [show Int32.ofNat i + 1 = Int32.ofNat (i + 1) from of_add i 1]
        exact nxt
      · have ew : whF G g2 g (i + 1) = 7 := if_neg (fun q => c (q i (by omega)))
        rw [ew] at nxt
        have g50 : rs_aI (rzS s (whF G g2 g i) (s0.2.1 50 n)) 50 (Int32.ofNat n) = some (s0.2.1 50 n) := (aI_at (i := n) (by decide) rfl hn (by decide)).trans (by rw [(st _ _).2.2, rk_A rk (by decide)])
        refine inq (fun q => c (of_decide_eq_true q)) (bsq g50 (bsq (a := rzS s 7 (s0.2.1 50 n)) ?_ ?_))
        · have e7 : rzS s 7 (s0.2.1 50 n) = rfS s 7 (s0.2.1 50 n) := if_neg (by decide)
          rcases whF_p (G := G) (g2 := g2) (g := g) i with q | q
          · rw [q, show rzS s 0 (s0.2.1 50 n) = s from if_pos rfl, r_305 h57, e7]
            rfl
          · have q7 : whF G g2 g i = 7 := by
              unfold whF at q ⊢
              by_cases c2 : ∀ j, j < i → g2 &&& (g ^^^ (-1)) &&& bt (gAt G j).2.1 = 0
              · rw [if_pos c2, i0] at q
                omega
              · rw [if_neg c2]
            rw [q7, r_305f (by rw [e7, rfS_57]; decide)]
            rfl
        · unfold s369_102
          rw [show Int32.ofNat i + 1 = Int32.ofNat (i + 1) from of_add i 1]
          exact nxt
/-- while -/
theorem js_22 (IC : JI L xs zf w cx C Sc M pt vr mv hB s0 nk m Pl Ph LO HI z px l lo1 hi1 ke kr) (bq : BQ L xs zf w cx C Sc M pt vr mv hB s0 nk m Pl Ph LO HI z 0 pb nb lo2 hi2 ke kr) (j0 : JE L xs cx hB s0 nk kl ml) (bj : bJ L xs hB s0 nk kl M m) (e0 : fd hB 12 p 0 = some (.int 17)) (e1 : fd hB 12 p 1 = some (.int (s0.2.1 50 n))) (e8 : fd hB 12 p 8 = some (.ref px)) (e9 : fd hB 12 p 9 = some (.ref pb)) (r44 : s0.2.1 44 n = 22) (r45 : s0.2.1 45 n = Int32.ofNat l) (r46 : s0.2.1 46 n = Int32.ofNat nb) (hl : 1 ≤ l ∧ l < 4400) (hn : n < 4400) (d1 : lo ≤ lo1) (d2 : hi1 ≤ lo2) (d3 : hi2 ≤ hi) (d4 : lo1 ≤ hi1) (n1 : lo ≤ n) (n2 : n < hi) (n3 : hi1 ≤ n ∨ n < lo1) (n4 : hi2 ≤ n ∨ n < lo2) (hLO : LO ≤ lo) (hHI : hi ≤ HI) (hkr : 1 ≤ kr) (hw : 200 ≤ w) : JS L xs zf w cx C Sc M pt vr mv hB s0 nk m Pl Ph LO HI z how p n lo hi (ke + 2) (kr + 2) := by
  intro j j2 h s ds G lv gn b u A B e hlz fv p53 hz
  have bl := bq.2.2.1
  have bl2 := bq.2.2.2.1
  have bl5 := bq.2.1
  have bn := bq.2.2.2.2
  obtain ⟨h1, s1, r1, sA, gn1, a1, b1, u1, A1, B1, h2, u2, A2, B2, t3, h3, s3, gn3, a3, b3, u3, A3, B3, q1, q2, q3, o1, m1, E2, c1, c2, c3, W3, K3, c6, uu, u13, c7, c8, c9, _, c10⟩ := cb_pre (j := j) (j2 := j2) IC bq j0 bj hw e hlz fv p53 d1 d2 d3 d4 hLO hHI (by omega)
  obtain ⟨kh, dl, bh, rk, e57, _, rg, gw⟩ := id e
  obtain ⟨k1, hk1⟩ : ∃ k1, ke + j = k1 + 3 := ⟨ke + j - 3, by omega⟩
  obtain ⟨k3, hk3⟩ : ∃ k3, kr + j2 = k3 + 1 := ⟨kr + j2 - 1, by omega⟩
  have h16 : ∀ (i : Nat) (X : scN), G[i]? = some X → X.2.1 < 16 := fun i X hX => (gw.2.2.1 i X hX).1
  have mk := ck_214 (zf := zf) (w := w) (k := k1 + 2) c3.1 dl hw
  rw [show k1 + 2 + 1 = ke + j from by omega] at mk
  obtain ⟨bd, hbd⟩ : ∃ bd, bd = whF G gn3 gn G.length := ⟨_, rfl⟩
  have bdp : bd = 0 ∨ 0 < bd.toInt := by rw [hbd]; exact whF_p _
  obtain ⟨hF, f1, f2, f3, f4⟩ := ck_rfz (pl := Pl) (ph := Ph) (zf := zf) (w := w) (k := k1 + 2) c3.1 bd (s0.2.1 50 n)
  have EF := CK_rg c3 f2 f3 bdp
  obtain ⟨h4, u4, A4, B4, m1', m2', m3', m4', m5', m6', m7', m8'⟩ := ck_emit (pl := Pl) (ph := Ph) (zf := zf) (w := w) (k := k1) f2 (by omega) 20 (Int32.ofNat (u 2))
  rw [← hk1] at m1'
  have E4 := CK_e0 EF m2' m3' m6'
  obtain ⟨h5, w1, w2, w3, w4⟩ := ck_aim (pl := Pl) (ph := Ph) (zf := zf) (w := w) (k := ke + j - 1) (c := u1 2) m2' (by omega) (by omega)
  rw [show ke + j - 1 + 1 = ke + j from by omega] at w1
  have E5 := CK_e0 E4 w2 w3 rfl
  obtain ⟨h6, v1, v2, v3, v4⟩ := ck_gone (pl := Pl) (ph := Ph) w2 gn1
  have E6 := CK_gn E5 v2 v3
  have W4 := wF_trans W3 K3 (wF_trans f3 f4 m3')
  have K4 := wK2_trans K3 (wK2_trans f4 m4' f3.1.1) W3.1.1
  have W5 := wF_trans W4 K4 w3
  have K5 := wK2_trans K4 w4 W4.1.1
  have W6 := wF_trans W5 K5 v3
  have K6 := wK2_trans K5 v4 W5.1.1
  have g8 : dgR L xs h 8 [12] (some p) = some (some px) := fd_R (o := some px) (bh.1.1 _ _ _ (by decide) e8) (by decide)
  have g9 : dgR L xs h2 9 [12] (some p) = some (some pb) := fd_R (o := some pb) (E2.2.2.1.1.1 _ _ _ (by decide) e9) (by decide)
  have g1 : dgI L xs h3 1 [12] (some p) = some (s0.2.1 50 n) := fd_I (c3.2.2.1.1.1 _ _ _ (by decide) e1) (by decide)
  have g11 : dgI L xs h 11 [4] (some (cx 8)) = some (Int32.ofNat (u 2)) := hc_gI kh.2.1 rfl (by decide)
  have f75 : b213_75 L xs zf (dM L xs zf w (ke + j)) w (some C) (Int32.ofNat (u 2)) (Int32.ofNat (u1 2)) gn1 hF = some (none, h6) := by
    unfold b213_75
    exact bsq (ck_0 f2) (bsq m1' (bsq (ck_0 m2') (bsq w1 (bsq v1 rfl))))
  have cls : (dcV L xs (dM L xs zf w (ke + 2 + j)) 169 [13] (some C) [va_rf (some p), .int (hwC how)] h).bind dxI = some (0, h6) := by
    rw [ck_v kh, show ke + 2 + j = ke + j + 1 + 1 from by omega, e169]
    show (b169_0 L xs zf (dM L xs zf w (ke + j + 1)) w (some C) (some p) (hwC how) h).bind dxI = _
    refine bsq (a := (some (.int 0), h6)) ?_ rfl
    unfold b169_0
    refine bsq (fd_I (bh.1.1 _ _ _ (by decide) e0) (by decide)) (inq (by decide) (inq (by decide) (inq (by decide) (itq rfl (bsq (a := h6) ?_ rfl)))))
    rw [ck_v kh, e213]
    show (b213_0 L xs zf (dM L xs zf w (ke + j)) w (some C) (some p) h).bind dxV = _
    refine bsq (a := (none, h6)) ?_ rfl
    unfold b213_0
    refine bsq (ck_4 kh) (bsq (ck_0 kh) (bsq g11 (bsq g8 (bsq q1 (bsq (ck_0 o1.1) (bsq m1 (bsq (ck_4 E2.1) (bsq g9 (bsq c1 (bsq mk (bsq (ck_4 c3.1) ?_)))))))))))
    show (if mx_f1 .eq ((mkM G G.length &&& gn3) &&& (gn ^^^ (-1))) = true then _ else _) = _
    unfold rfz at f1
    by_cases c : (mkM G G.length &&& gn3) &&& (gn ^^^ (-1)) = 0
    · have b0 : bd = 0 := by rw [hbd]; exact if_pos ((wh_iff h16).mp c)
      rw [if_pos b0] at f1
      refine itq (decide_eq_true c) ?_
      rw [Option.some.inj f1]
      exact f75
    · have b7 : bd = 7 := by rw [hbd]; exact if_neg (fun q => c ((wh_iff h16).mpr q))
      rw [b7, if_neg (by decide), show k1 + 2 + 1 = ke + j from by omega] at f1
      exact inq (fun q => c (of_decide_eq_true q)) (bsq g1 (bsq f1 f75))
  have g45 : ∀ S, rK s0 S → rs_aI S 45 (Int32.ofNat n) = some (Int32.ofNat l) := fun S hS => (aI_at (i := n) (by decide) rfl hn (by decide)).trans (by rw [rk_A hS (by decide), r45])
  have g44 : rs_aI s 44 (Int32.ofNat n) = some 22 := (aI_at (i := n) (by decide) rfl hn (by decide)).trans (by rw [rk_A rk (by decide), r44])
  have s64 : s.1 64 = gn := (rg rfl).2.2.1
  have rhead : ∀ S, (if mx_f1 .le (s1.1 57) = true then
      (rs_aI s1 46 (Int32.ofNat n)).bind fun x16 =>
      ((rM w (kr + j2) 336 [.ref 36, .int x16, .int 0] s1).bind rxV).bind fun s18 =>
      if mx_f1 .le (s18.1 57) = true then
        s369_60 (rM w (kr + j2)) w w (Int32.ofNat n) gn (s1.1 64) 0 s18
      else
        some (none, s18)
    else
      some (none, s1)) = some (none, S) → rM w (kr + 2 + j2) 337 [.ref 36, .int (Int32.ofNat n), .int (Int32.ofNat how)] s = some (none, S) := by
    intro S hS
    rw [show kr + 2 + j2 = kr + j2 + 1 + 1 from by omega, y337]
    show s337_0 (rM w (kr + j2 + 1)) w (Int32.ofNat n) (Int32.ofNat how) s = _
    unfold s337_0
    refine bsq (g45 s rk) (bsq g44 (inq (by decide) (inq (by decide) (inq (by decide) (itq rfl (bsq (a := S) ?_ rfl))))))
    rw [y369]
    show (s369_0 (rM w (kr + j2)) w (Int32.ofNat n) s).bind rxV = _
    refine bsq (a := (none, S)) ?_ rfl
    unfold s369_0
    rw [s64]
    exact bsq (g45 s rk) (bsq (g45 s rk) (bsq (a := (r1, sA)) (by rw [q2]; rfl) (bsq (a := s1) (by rw [q3]; rfl) hS)))
  have r5 : r53 lo hi s s3 := r53_mono c8 d1 (by omega)
  have cst : u4 2 ≤ u 2 + 3 * (hi - lo) := by omega
  have u40 : u4 0 = u 0 := m6'.trans c6
  by_cases ha1 : a1 = 0
  · subst ha1
    have ref3 := c2 rfl
    have l1 : mx_f1 .le (s1.1 57) = true := by rw [o1.2.2.2.2.1]; decide
    have g46 : rs_aI s1 46 (Int32.ofNat n) = some (Int32.ofNat nb) := (aI_at (i := n) (by decide) rfl hn (by decide)).trans (by rw [rk_A o1.2.2.2.1 (by decide), r46])
    by_cases ha3 : a3 = 0
    · subst ha3
      obtain ⟨_, p1, p2, p3, p4, p5⟩ := c10 rfl
      have l3 : mx_f1 .le (s3.1 57) = true := by rw [c3.2.2.2.2.1]; decide
      have x64 : s1.1 64 = gn1 := (o1.2.2.2.2.2.2.1 rfl).2.2.1
      have fa0 : fa 0 bd = bd := if_pos rfl
      rw [if_pos rfl, fa0] at E6
      have lpp := r_369l (w := w) (k := k3) (g := gn) c3.2.2.2.1 (c3.2.2.2.2.2.2.1 rfl) c3.2.2.2.2.1 gw.1.1 hn gn1 G.length 0 w (by omega) (by have := gw.1.1; omega)
      have w0 : whF G gn3 gn 0 = 0 := if_pos (fun j hj => absurd hj (by omega))
      rw [w0, show rzS s3 0 (s0.2.1 50 n) = s3 from if_pos rfl, ← hbd, ← hk3] at lpp
      have rfin : rM w (kr + 2 + j2) 337 [.ref 36, .int (Int32.ofNat n), .int (Int32.ofNat how)] s = some (none, rs_w (rzS s3 bd (s0.2.1 50 n)) 64 gn1) := by
        refine rhead _ (itq l1 (bsq g46 (bsq (a := s3) (by rw [ref3]; rfl) (itq l3 ?_))))
        rw [x64]
        exact lpp
      have r6 : r53 lo hi s (rs_w (rzS s3 bd (s0.2.1 50 n)) 64 gn1) := r53_trans r5 (r53_trans rzS_r (fun i _ => ⟨rfl, rfl⟩))
      by_cases hb : bd = 0
      · have f00 : fb 0 b3 bd (s0.2.1 50 n) = b3 := if_neg (fun z => z.2 hb)
        rw [if_pos hb, hb] at E6
        rw [hb] at rfin r6
        have old4 : ∀ i, i < u3 2 → A4 i = A3 i ∧ B4 i = B3 i := fun i hi => m8' i hi
        refine ⟨0, h6, _, cls, rfin, 0, _, u4, W6, K6, u40, cst, r6, Or.inr ⟨rfl, [], G, gn1, A4, _, 0, by rw [List.append_nil]; exact E6, ⟨[], by rw [List.append_nil]⟩, fun i hi => ⟨(old4 i (by omega)).1.trans (p1 i hi).1, (upd_at (by omega)).trans ((old4 i (by omega)).2.trans (p1 i hi).2)⟩, fun lo' hi' y1 y2 y3 y4 => p2 lo' hi' (by omega) y2 y3 y4, fun _ y => absurd y (by rw [r44]; decide), fun SL AA BB f y1 y2 y3 => ?_⟩⟩
        have z53 : ∀ i, (rs_w (rzS s3 0 (s0.2.1 50 n)) 64 gn1).2.1 53 i = s3.2.1 53 i := fun i => rfl
        obtain ⟨t1, xx, t2⟩ := p5 SL AA BB f (fun i i1 i2 => (y1 i (by omega) (by omega)).trans (z53 i)) (fun i i1 i2 => by
          have q := y2 i i1 (by omega)
          exact ⟨q.1.trans (old4 i (by omega)).1, q.2.trans ((upd_at (by omega)).trans (old4 i (by omega)).2)⟩) (fun i i1 i2 => by
          have q := y2 i (by omega) (by omega)
          exact ⟨q.1.trans (old4 i (by omega)).1, q.2.trans ((upd_at (by omega)).trans (old4 i (by omega)).2)⟩) (by omega) (by omega)
        have yc := y2 (u1 2) uu (by omega)
        have yd := y2 (u3 2) (by omega) (by omega)
        refine ⟨22, l, r44, r45, hl.1, hl.2, rfl, rfl, nb, u1 2, u3 2, xx, gn3, r46, bn.1, bn.2.1, t1, yc.1.trans ((old4 _ (by omega)).1.trans p4), ?_, t2, yd.1.trans m7'.1, ?_, m5', fun X hX => ?_⟩
        · rw [yc.2, upd_eq]
        · rw [yd.2, upd_at (by omega)]
          exact m7'.2
        · obtain ⟨i, hi⟩ := List.getElem?_of_mem hX
          have all : ∀ j, j < G.length → gn3 &&& (gn ^^^ (-1)) &&& bt (gAt G j).2.1 = 0 := by
            refine Decidable.byContradiction (fun q => ?_)
            unfold whF at hbd
            rw [if_neg q] at hbd
            rw [hbd] at hb
            exact absurd hb (by decide)
          have q := all i (List.getElem?_eq_some_iff.mp hi).1
          rw [gAt_of hi] at q
          exact q
      · rw [if_neg hb] at E6
        exact ⟨0, h6, _, cls, rfin, SP_ft (CK_64 E6 hb gn1) hb W6 K6 u40 cst r6⟩
    · have fan : fa a3 bd = a3 := fa_n ha3
      rw [fan, if_neg ha3, if_neg ha3] at E6
      refine ⟨0, h6, s3, cls, rhead _ ?_, SP_ft E6 ha3 W6 K6 u40 cst r5⟩
      exact itq l1 (bsq g46 (bsq (a := s3) (by rw [ref3]; rfl) (inq (le_ps (by rw [c3.2.2.2.2.1]; exact (c3.2.2.2.2.2.1 ha3).2)) rfl)))
  · obtain ⟨z1, z2⟩ := c9 ha1
    subst z1
    subst z2
    have fan : fa a3 bd = a3 := fa_n ha1
    rw [fan, if_neg ha1, if_neg ha1] at E6
    refine ⟨0, h6, s3, cls, rhead _ ?_, SP_ft E6 ha1 W6 K6 u40 cst r5⟩
    exact inq (le_ps (by rw [o1.2.2.2.2.1]; exact (o1.2.2.2.2.2.1 ha1).2)) rfl
end JWH
