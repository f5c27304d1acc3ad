/-! A PROGRAM IS STARTED: the world that begins. -/
def om0 : oMg := (fun _ => 0, fun _ => 0, (fun _ => 0, fun _ => 0, fun _ => 0, fun _ => 0, fun _ => 0), fun _ _ => False, fun _ => 0)
def ka0 : kAp := (fun _ => 0, fun _ => 0, 0, 0)
def la0 : lAy := (fun _ => 0, fun _ => 0, fun _ => 0, 0, 0)
def ms0 : mSg := (fun _ => 0, fun _ => 0, fun _ _ => 0, fun _ => 0, fun _ => 0)
/-- the Actors, in use or not -/
def aOk (sg : cS) : Prop := ∀ b, b < 12 → sg.2.2.1 b 0 = Int32.ofNat b ∧ 64 ≤ sg.2.2.2.2 b 13 ∧ sg.2.2.2.2 b 13 ≤ 40000
section JBG
variable {sB : rS} {A B : Nat → Int32} {mi : Nat → Nat × Nat × Nat × Nat × Nat} {kc : kCi} {om om' : oMg} {ka ka' : kAp} {la : lAy} {ms : mSg} {N N' cn : Nat} {sg sg' sg2 : cS} {s s' s2 S1 : rS} {a b d e lo q0 J l t r i n p q k k2 f0 w P L sz lv : Nat} {xs : Nat → Int32} {zf : Value} {Z : Nat → Prop} {hB h h' : rm_H} {es : List Nat} {x : Nat → Nat → fDs} {D : Nat → Nat} {S S0 X : List stE} {v : Int64} {y : Int32}
variable {cl mb kk m K : Nat} {sg0 : cS} {em g0 : Nat → Int64} {us br wl : Nat → Int32} {bt ag : Nat → Int64} {g cf : Nat → Int32} {Lo : List Nat}
theorem aOk_of (ru : rUn sB A B mi kc om ka la ms N cn sg s D x) : aOk sg := by
  intro b b12
  obtain ⟨clm, mb, tn, _, _, _, _, _, _, _, _, _, _, _, n12⟩ := ru.1.2.2.1
  by_cases c : ka.2.2.2 ≤ b
  · exact n12 b c b12
  · have hb : b < ka.2.2.2 := by omega
    refine ⟨(ru.1.2.2.2.2.2 b hb).2.1.1.1, ?_⟩
    rcases ru.2 b hb with ⟨_, z, _⟩ | ⟨_, _, _, _, _, z, _⟩
    · exact z.2.2
    · exact z.2.2
theorem wAl_0 (fx : fxR sB s) (cl4 : cl ≤ 400) (m1 : 1 ≤ mb) (m6 : mb ≤ 6) (g5 : sg.1 5 = Int32.ofNat cl) (g6 : sg.1 6 = Int32.ofNat mb) (gz : ∀ j, 8 ≤ j → j ≤ 15 → sg.1 j = 0) (r78 : s.1 78 = Int32.ofNat cl) (r79 : s.1 79 = Int32.ofNat mb) (r74 : s.1 74 = 1) (r87 : s.1 87 = 0) (rz : ∀ j, 75 ≤ j → j ≤ 84 → j ≠ 78 → j ≠ 79 → s.1 j = 0) (ao : aOk sg) : wAl sB kc om0 ka0 la0 ms0 1 0 sg s (fun _ => 0) := by
  have tz : ∀ l, tgF om0.2.1 om0.1 l = 0 := fun l => if_pos rfl
  refine ⟨fx, ⟨⟨fun l => Or.inl (tz l), fun l k h1 => absurd (tz l) h1, ⟨fun _ => 0, fun r hr => absurd rfl hr⟩, fun l _ => rfl⟩, ⟨fun l hl => absurd (tz l) hl, fun _ => Nat.zero_lt_one, fun r hr => absurd rfl hr⟩, fun l => by rw [tz l]; exact Nat.zero_le _, fun _ _ => rfl, Nat.le_refl _⟩, ⟨cl, mb, 0, ⟨g5, r78, cl4⟩, ⟨g6, r79, m1, m6⟩, ⟨?_, ?_, Nat.zero_le _⟩, ⟨?_, ?_⟩, ⟨?_, ?_, Nat.zero_le _⟩, ⟨r87, Nat.le_refl _⟩, ?_, ⟨?_, ?_, Nat.le_refl _, fun i _ h => absurd h (Nat.not_lt_zero _)⟩, ⟨?_, ?_, ?_⟩, r74, fun a h => absurd h (Nat.not_lt_zero _), fun b _ h => ao b h⟩, fun o h1 h2 => ?_, ⟨fun o o' h1 h2 h3 => ?_, fun a a' _ h => absurd h (Nat.not_lt_zero _), fun o a _ _ h => absurd h (Nat.not_lt_zero _)⟩, fun a h => absurd h (Nat.not_lt_zero _)⟩
  · exact gz 8 (by decide) (by decide)
  · exact rz 75 (by decide) (by decide) (by decide) (by decide)
  · exact gz 9 (by decide) (by decide)
  · exact rz 76 (by decide) (by decide) (by decide) (by decide)
  · exact gz 10 (by decide) (by decide)
  · exact rz 77 (by decide) (by decide) (by decide) (by decide)
  · rw [gz 11 (by decide) (by decide), rz 80 (by decide) (by decide) (by decide) (by decide)]
  · exact gz 12 (by decide) (by decide)
  · exact rz 81 (by decide) (by decide) (by decide) (by decide)
  · rw [gz 13 (by decide) (by decide), rz 82 (by decide) (by decide) (by decide) (by decide)]
  · rw [gz 14 (by decide) (by decide), rz 83 (by decide) (by decide) (by decide) (by decide)]
  · rw [gz 15 (by decide) (by decide), rz 84 (by decide) (by decide) (by decide) (by decide)]
  · have h2 : o ≤ 0 := h2
    omega
  · have h3 : o' ≤ 0 := h3
    omega
theorem sS_I {wt s0 p i : Nat} : (sSd (sS1 s b wt s0 m) br wl bt ag).2.1 p i = if p = 110 then wl i else if p = 105 then br i else if p = 103 ∧ i = s0 then Int32.ofNat m else if p = 94 ∧ i = b then Int32.ofNat (wt + 1) else if p = 102 ∧ i = 6 * b + wt then Int32.ofNat s0 else if p = 104 ∧ i = s0 then 1 else s.2.1 p i := by
  rw [sde_1]
  by_cases c1 : p = 110
  · rw [if_pos c1, if_pos c1]
  · rw [if_neg c1, if_neg c1]
    by_cases c2 : p = 105
    · rw [if_pos c2, if_pos c2]
    · rw [if_neg c2, if_neg c2]
      show (rs_wA (rs_w (rs_wA (rs_wA (rs_wA s 104 s0 1) 102 (6 * b + wt) (Int32.ofNat s0)) 94 b (Int32.ofNat (wt + 1))) 82 _) 103 s0 (Int32.ofNat m)).2.1 p i = _
      rw [wA_get]
      show (if p = 103 ∧ i = s0 then Int32.ofNat m else (rs_wA (rs_wA (rs_wA s 104 s0 1) 102 (6 * b + wt) (Int32.ofNat s0)) 94 b (Int32.ofNat (wt + 1))).2.1 p i) = _
      rw [wA_get, wA_get, wA_get]
theorem sS_L {wt s0 p i : Nat} : (sSd (sS1 s b wt s0 m) br wl bt ag).2.2 p i = if p = 106 then ag i else if p = 107 then bt i else s.2.2 p i := by
  rw [sde_2]
  by_cases c1 : p = 106
  · rw [if_pos c1, if_pos c1]
  · rw [if_neg c1, if_neg c1]
    by_cases c2 : p = 107
    · rw [if_pos c2, if_pos c2]
    · rw [if_neg c2, if_neg c2]
      rfl
/-- THE WORLD THAT BEGINS: one actor of Kind kk, its maker's message waits -/
theorem rUn_st (fx : fxR sB s) (cl4 : cl ≤ 400) (m1 : 1 ≤ mb) (m6 : mb ≤ 6) (g5 : sg.1 5 = Int32.ofNat cl) (g6 : sg.1 6 = Int32.ofNat mb) (gz : ∀ j, 8 ≤ j → j ≤ 15 → sg.1 j = 0) (r78 : s.1 78 = Int32.ofNat cl) (r79 : s.1 79 = Int32.ofNat mb) (r74 : s.1 74 = 1) (r87 : s.1 87 = 0) (rz : ∀ j, 75 ≤ j → j ≤ 84 → j ≠ 78 → j ≠ 79 → s.1 j = 0) (ao : aOk sg)
    (k8 : kk < 8) (h66 : sB.2.1 66 kk = 1) (nf8 : (kc kk).1 ≤ 8) (room : (kc kk).1 + 1 ≤ cl) (hem : ∀ f, f < (kc kk).1 → ((∀ k' : kAp, vTy k' 0 ((kc kk).2.1 f) (em f)) ∧ oV (em f) = 0 ∧ cvl (em f) = 0) ∧ dTy ((kc kk).2.1 f) = true) (pm : pmT sB m []) (m72 : m < 72) (m71 : sB.2.1 71 m = Int32.ofNat kk) (m70 : sB.2.1 70 m = 0) (mrl : mRl sB m)
    (e1 : sg0.1 = (sA1 sg 0 (kc kk).1 cf).1) (e2 : sg0.2.1 = (sA1 sg 0 (kc kk).1 cf).2.1) (e3 : ∀ c j, c ≠ 0 → sg0.2.2.1 c j = sg.2.2.1 c j ∧ sg0.2.2.2.1 c j = sg.2.2.2.1 c j ∧ sg0.2.2.2.2 c j = sg.2.2.2.2 c j) (e4 : sg0.2.2.1 0 0 = Int32.ofNat 0 ∧ 64 ≤ sg0.2.2.2.2 0 13 ∧ sg0.2.2.2.2 0 13 ≤ 40000) (cf2 : ∀ j, 0 < j → j < (kc kk).1 + 1 → cf j = 0) (cf3 : ∀ j, (kc kk).1 + 1 ≤ j → cf j = sg.2.1 0 j)
    (o2 : ∀ f, f < (kc kk).1 → g0 (8 * 0 + f) = em f) (o3 : ∀ j, (j < 8 * 0 ∨ 8 * 0 + (kc kk).1 ≤ j) → g0 j = s.2.2 95 j) (o4 : ∀ j, j < 6 → us (6 * 0 + j) = 0) (o5 : ∀ j, (j < 6 * 0 ∨ 6 * 0 + 6 ≤ j) → us j = s.2.1 104 j)
    (gm : g 0 = Int32.ofNat m) (wli : WLI (fun _ => False) (401 * (6 * 0 + 0)) br wl Lo) (hag : ∀ i, (i < 6 * (6 * 0 + 0) ∨ 6 * (6 * 0 + 0) + 0 ≤ i) → ag i = s.2.2 106 i) (hbt : ∀ x, (x < 400 * (6 * 0 + 0) ∨ 400 * (6 * 0 + 0) + 400 ≤ x) → bt x = s.2.2 107 x) (hbr : ∀ x, (x < 401 * (6 * 0 + 0) ∨ 401 * (6 * 0 + 0) + 401 ≤ x) → br x = s.2.1 105 x) (hg : ∀ i, 6 < i → g i = sg0.2.2.2.1 0 10 i) :
    ∃ om' ka' la' ms' N' x', rUn sB A B mi kc om' ka' la' ms' N' 0 (sA3 (sA2 sg0 0 (kc kk).2.2 0) 0 0 0 g) (sSd (sS1 (rsI (rsL (sAc0 s 0 kk 0 (kc kk).1) 95 g0) 104 us) 0 0 (6 * 0 + 0) m) br wl bt ag) (fun _ => 0) x' ∧ ka'.2.2.2 = 1 := by
  have w0 := wAl_0 (kc := kc) fx cl4 m1 m6 g5 g6 gz r78 r79 r74 r87 rz ao
  have rI : ∀ p i, ¬ (89 ≤ p ∧ p ≤ 94 ∧ i = 0) → ¬ (p = 104 ∧ 6 * 0 ≤ i ∧ i < 6 * 0 + 6) → (rsI (rsL (sAc0 s 0 kk 0 (kc kk).1) 95 g0) 104 us).2.1 p i = s.2.1 p i := by
    intro p i h1 h2
    rw [sAc_I]
    by_cases c : p = 104
    · rw [if_pos c, c]
      exact o5 i (by omega)
    · rw [if_neg c, if_neg (by omega), if_neg (by omega), if_neg (by omega), if_neg (by omega), if_neg (by omega), if_neg (by omega)]
  have rL : ∀ p i, p ≠ 95 → (rsI (rsL (sAc0 s 0 kk 0 (kc kk).1) 95 g0) 104 us).2.2 p i = s.2.2 p i := fun p i hp => by
    show (if p = 95 then g0 else s.2.2 p) i = _
    rw [if_neg hp]
  have rz' : ∀ p, 90 ≤ p → p ≤ 94 → (rsI (rsL (sAc0 s 0 kk 0 (kc kk).1) 95 g0) 104 us).2.1 p 0 = 0 := by
    intro p h1 h2
    rw [sAc_I, if_neg (by omega)]
    by_cases c4 : p = 94
    · rw [if_pos ⟨c4, rfl⟩]
    rw [if_neg (fun z => c4 z.1)]
    by_cases c3 : p = 93
    · rw [if_pos ⟨c3, rfl⟩]
    rw [if_neg (fun z => c3 z.1)]
    by_cases c2 : p = 92
    · rw [if_pos ⟨c2, rfl⟩]
    rw [if_neg (fun z => c2 z.1)]
    by_cases c1 : p = 91
    · rw [if_pos ⟨c1, rfl⟩]
    rw [if_neg (fun z => c1 z.1), if_pos ⟨by omega, rfl⟩]
  have oth : ∀ c j, c ≠ 0 → (sA2 sg0 0 (kc kk).2.2 0).2.2.1 c j = sg.2.2.1 c j ∧ (sA2 sg0 0 (kc kk).2.2 0).2.2.2.1 c j = sg.2.2.2.1 c j ∧ (sA2 sg0 0 (kc kk).2.2 0).2.2.2.2 c j = sg.2.2.2.2 c j := by
    intro c j hc
    obtain ⟨y1, y2, y3⟩ := e3 c j hc
    exact ⟨by rw [z2_ne hc]; exact y1, y2, by rw [z2_P (fun z => hc z.1)]; exact y3⟩
  have x1 : ∀ j, j ≠ 8 → j ≠ 10 → (sA2 sg0 0 (kc kk).2.2 0).1 j = sg.1 j := fun j h1 h2 => by
    show upd sg0.1 8 _ j = _
    rw [upd_ne' h1, e1]
    exact upd_ne' (g := sg.1) h2
  have wA := wAl_a (kk := kk) (em := em) (sg' := (sA2 sg0 0 (kc kk).2.2 0)) (s' := (rsI (rsL (sAc0 s 0 kk 0 (kc kk).1) 95 g0) 104 us)) w0 k8 h66 nf8 (by decide) (fun cl' h4 h5 => by
    have : cl = cl' := ofn_inj (by omega) (by omega) (g5.symm.trans h5)
    show 0 + (kc kk).1 + 1 ≤ cl'
    omega) (fun f hf => (hem f hf).1) (fun f hf => (hem f hf).2) x1 (upd_eq' (g := sg0.1) (i := 8) (v := Int32.ofNat (0 + 1))) (by
    show upd sg0.1 8 (Int32.ofNat (0 + 1)) 10 = _
    rw [upd_ne' (by decide), e1]
    exact upd_eq' (g := sg.1) (i := 10) (v := Int32.ofNat (0 + (kc kk).1 + 1))) (fun j hj => by
    show sg0.2.1 j = _
    rw [e2]
    exact if_neg hj) (fun j hj => by
    show sg0.2.1 0 j = _
    rw [e2]
    have hj : j < 0 ∨ 0 + (kc kk).1 + 1 ≤ j := hj
    exact cf3 j (by omega)) (fun j h1 h2 => by
    show sg0.2.1 0 j = _
    rw [e2]
    have h1 : 0 < j := h1
    have h2 : j < 0 + (kc kk).1 + 1 := h2
    exact cf2 j h1 (by omega)) oth (by
    show (sA2 sg0 0 (kc kk).2.2 0).2.2.1 0 0 = _
    rw [z2_0]; exact e4.1) z2_2 (fun j hj => z2_z hj) z2_K (fun p h1 h2 => by
    show upd (upd s.1 75 _) 77 _ p = _
    rw [upd_ne' h2, upd_ne' h1]) (by
    show upd (upd s.1 75 (Int32.ofNat (0 + 1))) 77 (Int32.ofNat (0 + ((kc kk).1 + 1))) 75 = _
    rw [upd_ne' (by decide), upd_eq']
    rfl) (upd_eq' (g := upd s.1 75 (Int32.ofNat (0 + 1))) (i := 77) (v := Int32.ofNat (0 + (kc kk).1 + 1))) rI (by
    show (rsI (rsL (sAc0 s 0 kk 0 (kc kk).1) 95 g0) 104 us).2.1 89 0 = _
    rw [sAc_I, if_neg (by decide), if_neg (by omega), if_neg (by omega), if_neg (by omega), if_neg (by omega), if_neg (by omega), if_pos ⟨rfl, rfl⟩]) rz' (fun j hj => by
    show (rsI (rsL (sAc0 s 0 kk 0 (kc kk).1) 95 g0) 104 us).2.1 104 (6 * 0 + j) = 0
    rw [sAc_I, if_pos rfl]
    exact o4 j hj) rL o2 o3
  have giA := wA.2.1
  have g10 : (sA3 (sA2 sg0 0 (kc kk).2.2 0) 0 0 0 g).2.2.2.1 0 10 = g := rfl
  have em1 : (msA ms0 0).1 0 = 0 := rfl
  have rf : kRs 0 0 (6 * 0 + 0) 0 (rsI (rsL (sAc0 s 0 kk 0 (kc kk).1) 95 g0) 104 us) (sSd (sS1 (rsI (rsL (sAc0 s 0 kk 0 (kc kk).1) 95 g0) 104 us) 0 0 (6 * 0 + 0) m) br wl bt ag) := by
    refine ⟨fun p hp => upd_ne' (g := (rsI (rsL (sAc0 s 0 kk 0 (kc kk).1) 95 g0) 104 us).1) hp, fun p i h1 h2 h3 h4 h5 h6 => ?_, fun p i h1 h2 => ?_⟩
    · rw [sS_I, if_neg h6]
      by_cases c : p = 105
      · rw [if_pos c, c, rI 105 i (by omega) (by omega)]
        exact hbr i (by omega)
      · rw [if_neg c, if_neg (by omega), if_neg h4, if_neg h3, if_neg (by omega)]
    · rw [sS_L]
      by_cases c : p = 106
      · rw [if_pos c, c, rL 106 i (by decide)]
        exact hag i (by omega)
      · rw [if_neg c]
        by_cases c2 : p = 107
        · rw [if_pos c2, c2, rL 107 i (by decide)]
          exact hbt i (by omega)
        · rw [if_neg c2]
  have wS := wAl_s (sg' := (sA3 (sA2 sg0 0 (kc kk).2.2 0) 0 0 0 g)) (s' := (sSd (sS1 (rsI (rsL (sAc0 s 0 kk 0 (kc kk).1) 95 g0) 104 us) 0 0 (6 * 0 + 0) m) br wl bt ag)) (om1 := ((omA om0 1 0 (kc kk).1 em (kc kk).2.1).1, (omA om0 1 0 (kc kk).1 em (kc kk).2.1).2.1, fsG (omA om0 1 0 (kc kk).1 em (kc kk).2.1).2.2.1 2 (12 + (6 * 0 + 0)), (omA om0 1 0 (kc kk).1 em (kc kk).2.1).2.2.2)) (E := fun y => y < 2) (Pq := fun _ => False) (ps := []) (L := Lo) (a := 0) (b := 0) (j := 0) (m := m) wA (Nat.zero_lt_one) (Nat.zero_lt_one) (by decide) (fun k hk => absurd hk (Nat.not_lt_zero _)) (fun mb' h1 h2 => by
    rw [x1 6 (by decide) (by decide)] at h2
    have e : mb = mb' := ofn_inj (by omega) (by omega) (g6.symm.trans h2)
    show 0 < mb'
    omega) (GI_fs giA (Nat.le_succ 2)) rfl (by
    have := fsG_st (a1 := 0) (a := 12 + (6 * 0 + 0)) (E := fun y => y < 2) (P := fun _ => False) giA (fun y hy => hy)
    exact ⟨this.1, this.2.1, this.2.2.1, fun o ho => by
      rcases this.2.2.2 o ho with z | z | z
      · exact Or.inl z
      · exact Or.inr (Or.inl z)
      · exact Or.inr (Or.inl z)⟩) (fun y hy => by
    rcases hy with z | z
    · show y < 2
      omega
    · exact z.1) (show (1 : Nat) < 2 by decide) (fun l h => h.elim) (fun l _ => ⟨rfl, rfl⟩) rfl (fun i q' hq => by simp at hq) pm (Nat.zero_le _) (fun t ht => by simp at ht) m72 m71 ⟨by rw [m70]; decide, mrl⟩ (fun o ho => (wli.2.2.2 o ho).1.elim) (fun o ho => (wli.2.2.2 o ho).1.elim) (fun o o1 o4' => by
    rw [sS_I, if_neg (by decide), if_pos rfl, wli.2.2.1 o o4']
    by_cases c : o ∈ Lo
    · rw [if_pos c]
      exact ⟨fun _ => c, fun _ => by decide⟩
    · rw [if_neg c]
      exact ⟨fun z => absurd rfl z, fun z => absurd z c⟩) (by
    refine ⟨fun j hj => upd_ne' (g := (sA2 sg0 0 (kc kk).2.2 0).1) hj, rfl, fun c j h1 h2 => ?_, fun c j h1 h2 => if_neg h2, fun _ _ _ => rfl⟩
    show (sA' (sA' (sM (sA2 sg0 0 (kc kk).2.2 0) 0 g) 0 13 (Int32.ofNat 0)) 0 4 (Int32.ofNat (0 + 1))).2.2.1 c j = _
    exact (if_neg h2).trans (if_neg h1)) (by
    show upd (sA2 sg0 0 (kc kk).2.2 0).1 13 ((sA2 sg0 0 (kc kk).2.2 0).1 13 + 1) 13 = upd (rsI (rsL (sAc0 s 0 kk 0 (kc kk).1) 95 g0) 104 us).1 82 ((rsI (rsL (sAc0 s 0 kk 0 (kc kk).1) 95 g0) 104 us).1 82 + 1) 82
    rw [upd_eq', upd_eq', x1 13 (by decide) (by decide), gz 13 (by decide) (by decide)]
    show (0 : Int32) + 1 = upd (upd s.1 75 (Int32.ofNat (0 + 1))) 77 (Int32.ofNat (0 + ((kc kk).1 + 1))) 82 + 1
    rw [upd_ne' (by decide), upd_ne' (by decide), rz 82 (by decide) (by decide) (by decide) (by decide)]) (by
    show (sA' (sA' (sM (sA2 sg0 0 (kc kk).2.2 0) 0 g) 0 13 (Int32.ofNat 0)) 0 4 (Int32.ofNat (0 + 1))).2.2.1 0 4 = _
    exact sA_at) (by rw [g10]; exact gm) (fun i hi => by
    rw [g10]
    have hi : i < 0 ∨ 0 + 6 < i := hi
    exact hg i (by omega)) rf (by
    rw [sS_I, if_neg (by decide), if_neg (by decide), if_neg (fun z => absurd z.1 (by decide)), if_pos ⟨rfl, rfl⟩]
    rfl) (by
    rw [sS_I, if_neg (by decide), if_neg (by decide), if_neg (fun z => absurd z.1 (by decide)), if_neg (fun z => absurd z.1 (by decide)), if_neg (fun z => absurd z.1 (by decide)), if_pos ⟨rfl, rfl⟩]) (by
    rw [sS_I, if_neg (by decide), if_neg (by decide), if_neg (fun z => absurd z.1 (by decide)), if_neg (fun z => absurd z.1 (by decide)), if_pos ⟨rfl, rfl⟩]) (by
    rw [sS_I, if_neg (by decide), if_neg (by decide), if_pos ⟨rfl, rfl⟩])
  have eD : (fun c => if c = ka0.2.2.2 then 0 else (fun _ => 0 : Nat → Nat) c) = (fun _ => 0 : Nat → Nat) := by
    funext c
    split <;> rfl
  rw [eD] at wS
  refine ⟨_, _, _, _, _, fun _ _ => (0, 0, [], 0, [], fun _ => 0, 0, 0), ⟨wS, fun a ha => ?_⟩, rfl⟩
  have ha : a < 0 + 1 := ha
  have a0 : a = 0 := by omega
  subst a0
  refine Or.inl ⟨rfl, ⟨?_, Nat.zero_le _, ?_, ?_⟩, ?_⟩
  · show (sA' (sA' (sM (sA2 sg0 0 (kc kk).2.2 0) 0 g) 0 13 (Int32.ofNat 0)) 0 4 (Int32.ofNat (0 + 1))).2.2.1 0 13 = _
    rw [sA_ne (Or.inl (by decide)), sA_at]
  · show 64 ≤ (sA2 sg0 0 (kc kk).2.2 0).2.2.2.2 0 13
    rw [z2_P (fun z => absurd z.2 (by decide))]; exact e4.2.1
  · show (sA2 sg0 0 (kc kk).2.2 0).2.2.2.2 0 13 ≤ 40000
    rw [z2_P (fun z => absurd z.2 (by decide))]; exact e4.2.2
  · rw [sS_I, if_neg (by decide), if_neg (by decide), if_neg (fun z => absurd z.1 (by decide)), if_neg (fun z => absurd z.1 (by decide)), if_neg (fun z => absurd z.1 (by decide)), if_neg (fun z => absurd z.1 (by decide))]
    exact rz' 93 (by decide) (by decide)
end JBG
