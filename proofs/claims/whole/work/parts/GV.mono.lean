/-! MORE FUEL does no harm to typed code; arguments one after the other. -/
section TUM
variable {s : rS} {SL A B : Nat → Int32} {m : Nat} {R R' : EXJ} {Q Q' : BLJ}
theorem VL_m (hR : ∀ lv G g n t g' a b, R lv G g n t g' a b → R' lv G g n t g' a b) {lv : Nat} {G : List scN} {g g' : Int32} {n t a b : Nat} (h : VL s R lv G g n t g' a b) : VL s R' lv G g n t g' a b := by
  obtain ⟨t0, q, e⟩ := h
  exact ⟨t0, hR _ _ _ _ _ _ _ _ q, e⟩
theorem AG_m (hR : ∀ lv G g n t g' a b, R lv G g n t g' a b → R' lv G g n t g' a b) {lv : Nat} {G : List scN} : ∀ (ts : List Nat) (g x g' : Int32) (a b : Nat), AG s R lv G ts g x g' a b → AG s R' lv G ts g x g' a b
  | [], _, _, _, _, _, h => h
  | _ :: ts, _, _, _, _, _, h => by
    obtain ⟨e, g1, c, h1, h2, h3, h4, h5⟩ := h
    exact ⟨e, g1, c, h1, h2, h3, VL_m hR h4, AG_m hR ts _ _ _ _ _ h5⟩
theorem ST_m (hR : ∀ lv G g n t g' a b, R lv G g n t g' a b → R' lv G g n t g' a b) {sw : Bool} {lv : Nat} {G : List scN} {g g' : Int32} {p e t a b : Nat} (h : ST s SL A B R sw lv G g p e t g' a b) : ST s SL A B R' sw lv G g p e t g' a b := by
  obtain ⟨tv, g1, c, q, h | ⟨h1, l, ta, k, f0, f, tf, d, h2, h3, h4, h5, h6⟩⟩ := h
  · exact ⟨tv, g1, c, VL_m hR q, Or.inl h⟩
  · exact ⟨tv, g1, c, VL_m hR q, Or.inr ⟨h1, l, ta, k, f0, f, tf, d, h2, h3, h4, hR _ _ _ _ _ _ _ _ h5, h6⟩⟩
theorem XS_m (hR : ∀ lv G g n t g' a b, R lv G g n t g' a b → R' lv G g n t g' a b) (hQ : ∀ lv G g n how t g' a b, Q lv G g n how t g' a b → Q' lv G g n how t g' a b) {lv : Nat} {G G' : List scN} {g g' : Int32} {n how tg a b : Nat} (h : XS s SL A B m R Q lv G g n how G' tg g' a b) : XS s SL A B m R' Q' lv G g n how G' tg g' a b := by
  obtain ⟨K, l, h1, h2, h3, h4, x⟩ := h
  refine ⟨K, l, h1, h2, h3, h4, ?_⟩
  by_cases hk : K = 20 ∨ K = 21 ∨ K = 22 ∨ K = 23 ∨ K = 24 ∨ K = 25 ∨ K = 26 ∨ K = 27
  · rcases hk with rfl | rfl | rfl | rfl | rfl | rfl | rfl | rfl
    · obtain ⟨tv, td, sl, c, g1, q, r⟩ := x
      exact ⟨tv, td, sl, c, g1, VL_m hR q, r⟩
    · obtain ⟨a1, a2, r, c, d, x, g1, g2, a3, a4, a5, q, a6, q2, h2 | ⟨e, y, g3, b1, b2, b3, b4, b5, b6, q3, b7⟩⟩ := x
      · exact ⟨a1, a2, r, c, d, x, g1, g2, a3, a4, a5, hR _ _ _ _ _ _ _ _ q, a6, hQ _ _ _ _ _ _ _ _ _ q2, Or.inl h2⟩
      · exact ⟨a1, a2, r, c, d, x, g1, g2, a3, a4, a5, hR _ _ _ _ _ _ _ _ q, a6, hQ _ _ _ _ _ _ _ _ _ q2, Or.inr ⟨e, y, g3, b1, b2, b3, b4, b5, b6, hQ _ _ _ _ _ _ _ _ _ q3, b7⟩⟩
    · obtain ⟨a1, a2, r, c, d, x, g2, a3, a4, a5, q, a6, a7, q2, a8⟩ := x
      exact ⟨a1, a2, r, c, d, x, g2, a3, a4, a5, hR _ _ _ _ _ _ _ _ q, a6, a7, hQ _ _ _ _ _ _ _ _ _ q2, a8⟩
    · obtain ⟨a1, a2, c, q, h2⟩ := x
      exact ⟨a1, a2, c, hR _ _ _ _ _ _ _ _ q, h2⟩
    · obtain ⟨a1, a2, a3, tv, c, tr, q, h2⟩ := x
      exact ⟨a1, a2, a3, tv, c, tr, VL_m hR q, h2⟩
    · obtain ⟨a1, a2, c, q, h2⟩ := x
      exact ⟨a1, a2, c, VL_m hR q, h2⟩
    · obtain ⟨a1, a2, r, y, a3, a4, a5, q⟩ := x
      exact ⟨a1, a2, r, y, a3, a4, a5, ST_m hR q⟩
    · obtain ⟨a1, a2, t, c, q, h2⟩ := x
      exact ⟨a1, a2, t, c, hR _ _ _ _ _ _ _ _ q, h2⟩
  · exfalso
    revert x
    split <;> first | omega | exact id
theorem XL_m (hR : ∀ lv G g n t g' a b, R lv G g n t g' a b → R' lv G g n t g' a b) (hQ : ∀ lv G g n how t g' a b, Q lv G g n how t g' a b → Q' lv G g n how t g' a b) {lv how : Nat} : ∀ (es : List Nat) (G : List scN) (g x : Int32) (tg : Nat) (g' : Int32) (a b : Nat), XL s SL A B m R Q lv how es G g x tg g' a b → XL s SL A B m R' Q' lv how es G g x tg g' a b
  | [], _, _, _, _, _, _, _, h => h
  | e0 :: r, G, g, x, tg, g', a, b, h => by
    obtain ⟨G1, t1, c, g1, h1, h2, h3, ⟨h4, h5, q, h6⟩ | ⟨h4, q, q2⟩⟩ := h
    · exact ⟨G1, t1, c, g1, h1, h2, h3, Or.inl ⟨h4, h5, XS_m hR hQ q, h6⟩⟩
    · exact ⟨G1, t1, c, g1, h1, h2, h3, Or.inr ⟨h4, XS_m hR hQ q, XL_m hR hQ r _ _ _ _ _ _ _ q2⟩⟩
theorem TU_13 : ∀ {f lv : Nat} {G : List scN} {g g' : Int32} {n t a b : Nat}, (TU s SL A B m f).1 lv G g n t g' a b → ∃ K : Nat, s.2.1 44 n = Int32.ofNat K ∧ 1 ≤ K ∧ K ≤ 13
  | 0, _, _, _, _, _, _, _, _, h => absurd h id
  | f + 1, _, _, _, _, _, _, _, _, h => by
    rcases h with h | ⟨K, h1, h2, h3⟩
    · exact TU_13 h
    · refine ⟨K, h1, ?_, h2⟩
      cases K with
      | zero => exact absurd h3 id
      | succ K => omega
theorem TU_30 : ∀ {f lv : Nat} {G : List scN} {g g' : Int32} {n how t a b : Nat}, (TU s SL A B m f).2 lv G g n how t g' a b → ∃ f', f = f' + 1 ∧ XB s SL A B m (TU s SL A B m f').1 (TU s SL A B m f').2 lv G g n how t g' a b
  | 0, _, _, _, _, _, _, _, _, _, h => absurd h id
  | f + 1, _, _, _, _, _, _, _, _, _, h => by
    rcases h with h | h
    · obtain ⟨f', e, q, es, r⟩ := TU_30 h
      subst e
      exact ⟨f' + 1, rfl, q, es, XL_m (fun _ _ _ _ _ _ _ _ z => Or.inl z) (fun _ _ _ _ _ _ _ _ _ z => Or.inl z) es _ _ _ _ _ _ _ r⟩
    · exact ⟨f, rfl, h⟩
end TUM
section PKM
variable {s : rS} {lo hi n K x : Nat}
theorem pka_rg (h : PKA s lo hi n) : lo ≤ n ∧ n < hi := (h 1).1.1
theorem pka_up (h : PKA s lo hi n) : ∃ k, upT s hi (k + 1) n := (h 1).1.2.1
theorem pka_l13 (h : PKA s lo hi n) (e : s.2.1 44 n = 13) : ∃ x : Nat, 1 ≤ x ∧ x < 4400 ∧ s.2.1 45 n = Int32.ofNat x := (h 1).1.2.2 e
theorem pka_45 (h : PKA s lo hi n) (e : s.2.1 44 n = Int32.ofNat K) (hK : K < 32) (k : k45 K = true) (hx : x < 4400) (ex : s.2.1 45 n = Int32.ofNat x) : s.2.1 49 x = Int32.ofNat n ∧ PKA s lo hi x := ⟨(((h 1).2 K hK e).1 k x hx ex).1, fun j => (((h (j + 1)).2 K hK e).1 k x hx ex).2⟩
theorem pka_46 (h : PKA s lo hi n) (e : s.2.1 44 n = Int32.ofNat K) (hK : K < 32) (k : k46 K = true) (hx : x < 4400) (ex : s.2.1 46 n = Int32.ofNat x) : s.2.1 49 x = Int32.ofNat n ∧ PKA s lo hi x := ⟨(((h 1).2 K hK e).2.1 k x hx ex).1, fun j => (((h (j + 1)).2 K hK e).2.1 k x hx ex).2⟩
theorem pka_47 (h : PKA s lo hi n) (e : s.2.1 44 n = 21) (hx : x < 4400) (x0 : x ≠ 0) (ex : s.2.1 47 n = Int32.ofNat x) : s.2.1 49 x = Int32.ofNat n ∧ PKA s lo hi x := ⟨(((h 1).2 21 (by decide) e).2.2.1 rfl x hx x0 ex).1, fun j => (((h (j + 1)).2 21 (by decide) e).2.2.1 rfl x hx x0 ex).2⟩
theorem pka_ch (h : PKA s lo hi n) (e : s.2.1 44 n = Int32.ofNat K) (hK : K < 32) (k : kch K = true) : ∀ j i, chP s n (fun e => PK s lo hi i e ∧ (K ≠ 30 → n < e)) j (s.2.1 45 n) := fun j i => ((h (i + 1)).2 K hK e).2.2.2.1 k j
theorem pka_len (h : PKA s lo hi n) (e : s.2.1 44 n = Int32.ofNat K) (hK : K < 32) (k : kch K = true) (k0 : K ≠ 30) : ∃ len : Nat, len ≤ 6 ∧ s.2.1 52 n = Int32.ofNat len ∧ chL s len (s.2.1 45 n) := ((h 1).2 K hK e).2.2.2.2.1 k k0
theorem pka_11 (h : PKA s lo hi n) (e : s.2.1 44 n = Int32.ofNat K) (hK : K = 11 ∨ K = 12) (hx : x < 4400) (ex : s.2.1 46 n = Int32.ofNat x) : x < n := ((h 1).2 K (by omega) e).2.2.2.2.2.1 hK x hx ex
theorem pka_13 (h : PKA s lo hi n) (e : s.2.1 44 n = 13) (hx : x < 4400) : (s.2.1 45 n = Int32.ofNat x → x < n) ∧ (s.2.1 46 n = Int32.ofNat x → n < x) := ((h 1).2 13 (by decide) e).2.2.2.2.2.2.1 rfl x hx
theorem pka_7 {y : Nat} (h : PKA s lo hi n) (e : s.2.1 44 n = Int32.ofNat K) (hK : K = 7 ∨ K = 26) (hx : x < 4400) (hy : y < 4400) (ex : s.2.1 45 n = Int32.ofNat x) (ey : s.2.1 46 n = Int32.ofNat y) : x < y := ((h 1).2 K (by omega) e).2.2.2.2.2.2.2.1 hK x y hx hy ex ey
theorem pka_5 (h : PKA s lo hi n) (e : s.2.1 44 n = Int32.ofNat K) (hK : K ≤ 5) : s.2.1 45 n = 0 := ((h 1).2 K (by omega) e).2.2.2.2.2.2.2.2.1 hK
theorem pka_8 (h : PKA s lo hi n) (e : s.2.1 44 n = 8) : s.2.1 46 n = 0 := ((h 1).2 8 (by decide) e).2.2.2.2.2.2.2.2.2 rfl
theorem cha_hd {e : Nat} {x' : Int32} (h : CHA s lo hi n K x') (ex : x' = Int32.ofNat e) (h1 : 1 ≤ e) (h2 : e < 4400) : s.2.1 49 e = Int32.ofNat n ∧ PKA s lo hi e ∧ (K ≠ 30 → n < e) ∧ CHA s lo hi n K (s.2.1 48 e) :=
  ⟨(h 1 0 e ex h1 h2).1, fun i => (h 1 i e ex h1 h2).2.1.1, (h 1 0 e ex h1 h2).2.1.2, fun j i => (h (j + 1) i e ex h1 h2).2.2⟩
theorem AG_len {R : EXJ} {lv : Nat} {G : List scN} : ∀ (ts : List Nat) (g x g' : Int32) (a b len : Nat), AG s R lv G ts g x g' a b → chL s len x → len = ts.length
  | [], _, _, _, _, _, len, h, c => by
    cases len with
    | zero => rfl
    | succ len =>
      obtain ⟨e, e1, e2, e3, _⟩ := c
      exact absurd (e1.symm.trans h.1) (ofn_0 e3 e2)
  | t :: ts, _, _, _, _, _, len, h, c => by
    obtain ⟨e, g1, c', h1, h2, h3, h4, h5⟩ := h
    cases len with
    | zero => exact absurd (h3.symm.trans c) (ofn_0 h2 h1)
    | succ len =>
      obtain ⟨e', e1, e2, e3, e4⟩ := c
      have : e' = e := ofn_inj e3 h2 (e1.symm.trans h3)
      subst this
      rw [List.length_cons, AG_len ts _ _ _ _ _ len h5 e4]
end PKM
theorem vE_cons {lv u : Nat} {ts : List Nat} {St : List stE} : vE lv (u :: ts) ++ St = vE lv ts ++ (u, false, lv) :: St := by
  unfold vE
  rw [List.reverse_cons, List.map_append, List.append_assoc]
  rfl
