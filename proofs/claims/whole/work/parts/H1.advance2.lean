/-! ON FROM A STEP OR A BLOCK THAT IS DONE; INTO A BLOCK; INTO A METHOD. -/
def NXT (s : rS) (A B : Nat → Int32) (m F lo hi b lv : Nat) (G : List scN) (g : Int32) (St : List stE) (q : Nat) : Prop := ∃ (i' lv' : Nat) (G' gx : List scN) (g' : Int32) (j : Nat), PJ A B j b i' ∧ lv ≤ lv' ∧ G = G' ++ gx ∧ gl G' g g' ∧ PT s A B m F lo hi i' q lv' G' g' St
/-- block r is entered: q -/
def eN (s : rS) (r q : Nat) : Prop := ∀ (s' : rS) (w k : Nat), rqs s s' → 6000 ≤ w → rM w (k + 4) 401 [.ref 36, .int (Int32.ofNat r)] s' = some (some (.int (Int32.ofNat q)), s')
section AD2
variable {s : rS} {A B : Nat → Int32} {m F lo hi np : Nat}
theorem gl_r {G : List scN} {g : Int32} : gl G g g := fun _ _ e => e
theorem gl_t {G G' gx : List scN} {g g' g'' : Int32} (e : G = G' ++ gx) (h : gl G g g') (h2 : gl G' g' g'') : gl G' g g'' := fun x hx z => h x (by rw [e]; exact List.mem_append.mpr (Or.inl hx)) (h2 x hx z)
theorem NXT_0 {b q lv lv' : Nat} {G : List scN} {g : Int32} {St : List stE} (hl : lv ≤ lv') (h : PT s A B m F lo hi b q lv' G g St) : NXT s A B m F lo hi b lv G g St q := ⟨b, lv', G, [], g, 0, PJ_0 h, hl, (List.append_nil _).symm, gl_r, h⟩
theorem NXT_w {b q lv : Nat} {G Go gx : List scN} {g g' : Int32} {St : List stE} (e : G = Go ++ gx) (h : gl Go g g') (nx : NXT s A B m F lo hi b lv Go g' St q) : NXT s A B m F lo hi b lv G g St q := by
  obtain ⟨i', lv', G', gx', g2, j, h1, h2, h3, h4, h5⟩ := nx
  exact ⟨i', lv', G', gx' ++ gx, g2, j, h1, h2, by rw [e, h3, List.append_assoc], gl_t h3 h h4, h5⟩
theorem AD {lo hi : Nat} (hF : F ≤ 2995) (ds : DSL s lo hi np) : ∀ f,
    (∀ (u n b lv : Nat) (G : List scN) (g : Int32) (St : List stE), (CT s A B m F lo hi f).2.1 u n b lv G g St → GO s lo hi np lv G → n < 4400 → u ≤ 5994 ∧ ∃ q, bhd s (u + 1) n q ∧ NXT s A B m F lo hi b lv G g St q) ∧
    ∀ (u n b lv : Nat) (G : List scN) (g : Int32) (St : List stE), (CT s A B m F lo hi f).2.2 u n b lv G g St → GO s lo hi np lv G → n < 4400 → ∃ q, bhd s (u + 1) n q ∧ NXT s A B m F lo hi b lv G g St q
  | 0 => ⟨fun _ _ _ _ _ _ _ h => absurd h id, fun _ _ _ _ _ _ _ h => absurd h id⟩
  | f + 1 => by
    obtain ⟨ihS, ihB⟩ := AD hF ds f
    have fe := FE (A := A) (B := B) (m := m) ds F (Nat.le_refl F)
    constructor
    · intro u n b lv G g St h go hn
      obtain ⟨c, e49, c1, c2, ch, n30, e30, how, tg, d, dd, es, g', Go, gx, hu, hd, xl, eG, fin⟩ := h
      refine ⟨by omega, ?_⟩
      cases es with
      | nil =>
        obtain ⟨x1, x2, x3, x4, x5⟩ := xl
        subst x2 x3 x5
        rcases fin with ⟨_, u', eu, bc⟩ | h | h
        · subst eu
          obtain ⟨q, b1, b2⟩ := ihB u' c d lv Go g' St bc (GO_sub go eG) c2
          exact ⟨q, bh_l hn e49 c2 n30 e30 x1 b1, NXT_w eG gl_r b2⟩
        · exact absurd h.1 (by decide)
        · exact absurd h.1 (by decide)
      | cons e r =>
        have fin' : FIN s A B m F lo hi u how c d lv Go g' tg St := by
          rcases fin with ⟨h0, u', eu, bc⟩ | h | ⟨h2, R, lv0, r1, r2, r3, r4, r5⟩
          · exact Or.inl ⟨h0, u', eu, f, bc⟩
          · exact Or.inr (Or.inl h)
          · exact Or.inr (Or.inr ⟨h2, R, lv0, r1, r2, r3, r4, f, r5⟩)
        obtain ⟨G1, how1, t1, g1, c1', w1, w2, w3, w4, w5, w6⟩ := XLH hu hd xl ch ⟨c1, c2⟩ e30 eG fin'
        obtain ⟨q, lv', h1, h2, h3⟩ := FSt (fe dd hd) hd hu ds ⟨w2, w3⟩ go w4 w5 w6
        exact ⟨q, bhd_mono (bh_n hn e49 c2 n30 e30 w1 w2 w3 h1 (by omega)) (by omega), NXT_0 h2 h3⟩
    · intro u n b lv G g St h go hn
      obtain ⟨e30, hu, p, e49, p1, p2, ⟨k, pt⟩ | ⟨k, g', u', eu, hg, h⟩ | ⟨k, pk, l, a, c, g0, g1, l45, l1, l2, a20, b20, hg, tu, pt⟩⟩ := h
      · exact ⟨p, bhd_mono (bh_b hn e49 p2 e30 k) (by omega), NXT_0 (Nat.le_refl _) ⟨f, pt⟩⟩
      · subst eu
        rcases h with h | ⟨b2, a20, b20, hb, h⟩
        · obtain ⟨_, q, z1, z2⟩ := ihS u' p b lv G g' St h go p2
          exact ⟨q, bh_i hn e49 p2 e30 k z1, NXT_w (List.append_nil G).symm hg z2⟩
        · obtain ⟨_, q, z1, i', lv', G', gx', g2, j, y1, y2, y3, y4, y5⟩ := ihS u' p b2 lv G g' St h go p2
          exact ⟨q, bh_i hn e49 p2 e30 k z1, i', lv', G', gx', g2, j + 1, Or.inr ⟨a20, b2, b20, Or.inl ⟨hb, y1⟩⟩, y2, y3, gl_t y3 hg y4, y5⟩
      · obtain ⟨z1, z2⟩ := pka_45 pk k (by decide) rfl l2 l45
        obtain ⟨q, lv', h1, h2, h3⟩ := fe F (Nat.le_refl F) lv G g0 l 1 g1 a c St l1 l2 go z2 tu ⟨f + 1, p, z1, p1, p2, pk, n30_of tu, 22, k, by decide, Or.inl ⟨Or.inr (Or.inr (Or.inl rfl)), pt⟩⟩
        exact ⟨q, bhd_mono (bh_w hn e49 p2 e30 k l45 h1 (by omega)) (by omega), a, lv', G, [], g0, 1, Or.inr ⟨a20, a, b20, Or.inr ⟨PT_20 h3, rfl⟩⟩, h2, (List.append_nil _).symm, hg, h3⟩
/-- a step is done -/
theorem AD_S {u n b lv : Nat} {G : List scN} {g : Int32} {St : List stE} (hF : F ≤ 2995) (ds : DSL s lo hi np) (h : SC s A B m F lo hi u n b lv G g St) (go : GO s lo hi np lv G) (hn : n < 4400) : ∃ q, bhd s 5995 n q ∧ NXT s A B m F lo hi b lv G g St q := by
  obtain ⟨f, h⟩ := h
  obtain ⟨h1, q, h2, h3⟩ := (AD hF ds f).1 u n b lv G g St h go hn
  exact ⟨q, bhd_mono h2 (by omega), h3⟩
theorem en_f {r e q M : Nat} (hr : r < 4400) (e45 : s.2.1 45 r = Int32.ofNat e) (h1 : 1 ≤ e) (h2 : e < 4400) (f : fI s M e q) (hM : M ≤ 6000) : eN s r q := by
  intro s' w k rr hw
  rw [y401]
  show s401_0 _ _ _ _ = _
  unfold s401_0
  refine bse ((nd_at rr (by decide) hr).trans (congrArg some e45)) ?_
  refine ift (ne1_t (ofn_0 h2 h1)) ?_
  refine bse ((nd_at rr (by decide) hr).trans (congrArg some e45)) ?_
  rw [fI_run (k := k + 1) f rr (by omega)]
  rfl
theorem en_b {r q M : Nat} (hr : r < 4400) (e45 : s.2.1 45 r = 0) (b : bhd s M r q) (hM : M ≤ 6000) : eN s r q := by
  intro s' w k rr hw
  rw [y401]
  show s401_0 _ _ _ _ = _
  unfold s401_0
  refine bse ((nd_at rr (by decide) hr).trans (congrArg some e45)) ?_
  refine ifn (by decide) ?_
  rw [bh_run (k := k) b rr hw (by omega)]
  rfl
/-- a block is entered -/
theorem ENT {u dd r x a d lv : Nat} {G : List scN} {g g2 : Int32} {St : List stE} (hF : F ≤ 2995) (ds : DSL s lo hi np) (hu : u + 2 * dd ≤ 2 * F + 4) (hd : dd ≤ F) (hr : 1 ≤ r ∧ r < 4400) (tu : (TU s (s.2.1 53) A B m dd).2 lv G g r 0 x g2 a d) (pk : PKA s lo hi r) (bc : BC s A B m F lo hi (u + 1) r d lv G g2 St) (go : GO s lo hi np lv G) : ∃ q, eN s r q ∧ NXT s A B m F lo hi a lv G g St q := by
  obtain ⟨d', ed, e30, es, xl⟩ := TU_30 tu
  subst ed
  cases es with
  | nil =>
    obtain ⟨x1, x2, x3, x4, x5⟩ := xl
    subst x2 x3
    obtain ⟨f, bc⟩ := bc
    obtain ⟨q, h1, h2⟩ := (AD hF ds f).2 _ _ _ _ _ _ _ bc go hr.2
    exact ⟨q, en_b hr.2 x1 h1 (by omega), h2⟩
  | cons e l =>
    obtain ⟨G1, how1, t1, g1, c1', w1, w2, w3, w4, w5, w6⟩ := XLH (u := u + 1 + 1) (by omega) (by omega) xl (pka_ch pk e30 (by decide) rfl) hr e30 (List.append_nil G).symm (Or.inl ⟨rfl, u + 1, rfl, bc⟩)
    obtain ⟨q, lv', h1, h2, h3⟩ := FSt (u := u + 1 + 1) (FE (A := A) (B := B) (m := m) (F := F) ds d' (by omega) d' (Nat.le_refl _)) (by omega) (by omega) ds ⟨w2, w3⟩ go w4 w5 w6
    exact ⟨q, en_f hr.2 w1 w2 w3 h1 (by omega), NXT_0 h2 h3⟩
/-- a method is entered -/
theorem BEG {c bb a e : Nat} (hF : F ≤ 2995) (ds : DSL s lo hi np) (hl : hi - lo = F) (hb : 1 ≤ bb ∧ bb < 4400) (hc : 1 ≤ c ∧ c < 4400) (b31 : s.2.1 44 bb = 31) (b54 : s.2.1 54 bb = Int32.ofNat m) (b45 : s.2.1 45 bb = Int32.ofNat c) (c49 : s.2.1 49 c = Int32.ofNat bb) (pk : PKA s lo hi c) (mc : MCT s (s.2.1 53) A B m c lo hi a e) (gp : ∀ (G : List scN) (ts : List Nat) (p0 : Nat), pmT s m ts → s.2.1 77 m = Int32.ofNat p0 → GP s p0 ts G → G.length = ts.length → GO s lo hi np 0 G) :
    ∃ (G : List scN) (ts : List Nat) (p0 q lv : Nat), pmT s m ts ∧ s.2.1 77 m = Int32.ofNat p0 ∧ GP s p0 ts G ∧ G.length = ts.length ∧ GO s lo hi np 0 G ∧ PT s A B m F lo hi a q lv G 0 [] ∧ ((s.2.1 45 c = 0 ∧ q = bb) ∨ ∃ e' : Nat, s.2.1 45 c = Int32.ofNat e' ∧ 1 ≤ e' ∧ e' < 4400 ∧ fI s 6000 e' q) := by
  obtain ⟨G, ts, p0, how, tg, gn', e', q1, q2, q3, q4, tu, fin⟩ := mc
  have go := gp G ts p0 q1 q2 q3 q4
  rw [hl] at tu
  obtain ⟨d', ed, e30, es, xl⟩ := TU_30 tu
  have bcx : how = 0 → BC s A B m F lo hi 1 c e' 0 G gn' [] := by
    intro h0
    rcases fin with h | ⟨_, h75, _, a19, k, k8, k1, k2⟩
    · omega
    · exact ⟨0 + 1, e30, by decide, bb, c49, hb.1, hb.2, Or.inl ⟨b31, hb, 31, b31, by decide, rfl, rfl, b54, h75, a19, k, k8, k1, k2⟩⟩
  cases es with
  | nil =>
    obtain ⟨x1, x2, x3, x4, x5⟩ := xl
    subst x2 x3
    rcases fin with h | ⟨_, h75, _, a19, k, k8, k1, k2⟩
    · omega
    · exact ⟨G, ts, p0, bb, 0, q1, q2, q3, q4, go, ⟨0, hb, 31, b31, by decide, rfl, rfl, b54, h75, a19, k, k8, k1, k2⟩, Or.inl ⟨x1, rfl⟩⟩
  | cons e0 l =>
    have fi : FIN s A B m F lo hi 2 how c e' 0 G gn' tg [] := by
      rcases fin with h | h
      · exact Or.inr (Or.inl ⟨h.1, rfl, rfl⟩)
      · exact Or.inl ⟨h.1, 1, rfl, bcx h.1⟩
    obtain ⟨G1, how1, t1, g1, c1', w1, w2, w3, w4, w5, w6⟩ := XLH (u := 2) (dd := d') (by omega) (by omega) xl (pka_ch pk e30 (by decide) rfl) hc e30 (List.append_nil G).symm fi
    obtain ⟨q, lv', h1, h2, h3⟩ := FSt (u := 2) (FE (A := A) (B := B) (m := m) (F := F) ds d' (by omega) d' (Nat.le_refl _)) (by omega) (by omega) ds ⟨w2, w3⟩ go w4 w5 w6
    exact ⟨G, ts, p0, q, lv', q1, q2, q3, q4, go, h3, Or.inr ⟨e0, w1, w2, w3, fI_mono h1 (by omega)⟩⟩
end AD2
