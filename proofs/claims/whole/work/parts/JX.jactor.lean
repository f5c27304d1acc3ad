/-! ACTOR BY BOTH: a program runs. -/
/-- the Kinds of actors, as the class has them -/
def kBa (sB : rS) (kc : kCi) (hB : rm_H) (Z : Nat → Prop) : Prop := ∀ k, k < 8 → (kc k).1 ≤ 8 → sB.2.1 66 k = 1 → ∃ mk, KBk hB Z (kc k).2.2 (Int32.ofNat k) (kc k).1 mk
section JACT
variable {sB : rS} {A B : Nat → Int32} {mi : Nat → Nat × Nat × Nat × Nat × Nat} {kc : kCi} {om om' : oMg} {ka ka' : kAp} {la : lAy} {ms : mSg} {N N' cn : Nat} {sg sg' sg2 : cS} {s s' s2 S1 : rS} {a b d e lo q0 J l t r i n p q k k2 f0 w P L sz lv : Nat} {xs : Nat → Int32} {zf : Value} {Z : Nat → Prop} {hB h h' : rm_H} {es : List Nat} {x : Nat → Nat → fDs} {D : Nat → Nat} {S S0 X : List stE} {v : Int64} {y : Int32}
variable {i1 i2 : Int32} {K : Nat}
theorem k_kind (rh : RH (.ref P) n sg Z hB h) (ha : a < n) (hK : sg.2.2.2.2 a 1 = K) (K0 : K ≠ 0) : dgR L xs h 1 [14] (some (sg.2.2.2.2 a 0)) = some (some K) := by
  have e : hc h (sg.2.2.2.2 a 0) = some (aCel sg a) := RH_a (r := 0) rh ha (by decide)
  refine hc_gR (p := some K) e ?_ rfl
  show some (kV (sg.2.2.2.2 a 1)) = some (.ref K)
  rw [hK]
  exact congrArg some (if_neg K0)
theorem b_actor (kba : kBa sB kc hB Z) (hs : hSe hB Z) (rh : RH (.ref P) n sg Z hB h) (hn : ka.2.2.2 ≤ n) (ru : rUn sB A B mi kc om ka la ms N cn sg s D x) (i1 i2 : Int32) : ∃ v : Int32, dM L xs zf w (k + 2) 268 [.ref 21, .int i1, .int i2] h = some (some (.int v), h) ∧ rM w (k2 + 2) 403 [.ref 36, .int i1, .int i2] s = some (some (.int v), s) := by
  have hdc : ∀ X, b268_0 L xs zf (dM L xs zf w (k + 1)) w (some 21) i1 i2 h = X → dM L xs zf w (k + 2) 268 [.ref 21, .int i1, .int i2] h = X := fun X hX => by rw [e268]; exact hX
  have hdr : ∀ X, s403_0 (rM w (k2 + 1)) w i1 i2 s = X → rM w (k2 + 2) 403 [.ref 36, .int i1, .int i2] s = X := fun X hX => by rw [y403]; exact hX
  obtain ⟨clm, mb, tn, _, _, ⟨n3, n3b, n3c⟩, _, _, _, _, _, _, n10, _⟩ := ru.1.2.2.1
  have r1 := r_381 (w := w) (k := k2) (i1 := i1) n10 n3b n3c
  by_cases hz : i1.toInt < 0 ∨ (ka.2.2.2 : Int) ≤ i1.toInt
  · refine ⟨-1, hdc _ ?_, hdr _ ?_⟩
    · unfold b268_0
      refine bse (hs_w hs rh) ?_
      refine bse (a := (none, h)) ?_ ?_
      · rw [cV_w rh, k_findN (L := L) (xs := xs) (zf := zf) (w := w) (k := k) (i1 := i1) rh n3 n3c hz]
        rfl
      · exact ift rfl rfl
    · unfold s403_0
      rw [if_pos hz] at r1
      refine bse (a := ((0 : Int32), s)) (by rw [r1]; rfl) ?_
      exact ifn (show ¬ mx_f1 .ne (0 : Int32) = true by decide) rfl
  · have e1 : i1 = Int32.ofNat i1.toInt.toNat := of_toNat i1 (by omega) (by omega)
    have al : i1.toInt.toNat < ka.2.2.2 := by omega
    generalize i1.toInt.toNat = b at e1 al
    have bn : b < n := by omega
    have b12 : b < 12 := by omega
    obtain ⟨_, wac, ⟨⟨_, m2, m3⟩, _⟩⟩ := ru.1.2.2.2.2.2 b al
    obtain ⟨⟨_, y2, y3, y4, y4b⟩, ⟨_, y5⟩, ⟨y6, y7⟩, ⟨y8, y9⟩, _⟩ := wac
    obtain ⟨mk, fs, fl, ar, mc, z1, z2, _, _, _, z6, _⟩ := kba (ka.2.1 b) y3 y4b y4
    have K0 : (kc (ka.2.1 b)).2.2 ≠ 0 := by
      have := hc_ge z1
      omega
    rw [if_neg hz] at r1
    have kf := k_find (L := L) (xs := xs) (zf := zf) (w := w) (k := k) (i := b) rh n3 hn n3c (by omega)
    rw [if_pos al, ← e1] at kf
    have cl : ∀ X, (if dsw 0 4 i2 = true then drI (some .int) (-1) h else if i2 = 0 then drI (some .int) (Int32.ofNat (ka.2.1 b)) h else if i2 = 1 then drI (some .int) (Int32.ofNat (D b)) h else if i2 = 2 then drI (some .int) (Int32.ofNat (ms.1 b)) h else if i2 = 3 then drI (some .int) (s.2.1 90 b) h else if i2 = 4 then drI (some .int) (s.2.1 91 b) h else none) = some X → dM L xs zf w (k + 2) 268 [.ref 21, .int i1, .int i2] h = some X := by
      intro X hX
      refine hdc _ ?_
      unfold b268_0
      refine bse (hs_w hs rh) ?_
      refine bse (a := (some (sg.2.2.2.2 b 0), h)) ?_ ?_
      · rw [cV_w rh, kf]
        rfl
      refine ifn (fun z => by cases z) ?_
      by_cases d : dsw 0 4 i2 = true
      · rw [if_pos d] at hX ⊢
        exact hX
      rw [if_neg d] at hX ⊢
      by_cases x0 : i2 = 0
      · rw [if_pos x0] at hX ⊢
        refine bse (k_kind rh bn y2 K0) ?_
        refine bse (hc_gI (fr_old rh.1 z1 z6) z2 (by decide)) hX
      rw [if_neg x0] at hX ⊢
      by_cases x1 : i2 = 1
      · rw [if_pos x1] at hX ⊢
        exact bse ((gA (L := L) (xs := xs) rh bn (j := 3) (by decide)).trans (congrArg some y6)) hX
      rw [if_neg x1] at hX ⊢
      by_cases x2 : i2 = 2
      · rw [if_pos x2] at hX ⊢
        exact bse ((gA (L := L) (xs := xs) rh bn (j := 4) (by decide)).trans (congrArg some m2)) hX
      rw [if_neg x2] at hX ⊢
      by_cases x3 : i2 = 3
      · rw [if_pos x3] at hX ⊢
        exact bse ((gA (L := L) (xs := xs) rh bn (j := 5) (by decide)).trans (congrArg some y8)) hX
      rw [if_neg x3] at hX ⊢
      by_cases x4 : i2 = 4
      · rw [if_pos x4] at hX ⊢
        exact bse ((gA (L := L) (xs := xs) rh bn (j := 6) (by decide)).trans (congrArg some y9)) hX
      rw [if_neg x4] at hX
      cases hX
    have rf : ∀ X, (if dsw 0 4 i2 = true then rrI (some .int) (-1) s else if i2 = 0 then rrI (some .int) (Int32.ofNat (ka.2.1 b)) s else if i2 = 1 then rrI (some .int) (Int32.ofNat (D b)) s else if i2 = 2 then rrI (some .int) (Int32.ofNat (ms.1 b)) s else if i2 = 3 then rrI (some .int) (s.2.1 90 b) s else if i2 = 4 then rrI (some .int) (s.2.1 91 b) s else none) = some X → rM w (k2 + 2) 403 [.ref 36, .int i1, .int i2] s = some X := by
      intro X hX
      refine hdr _ ?_
      unfold s403_0
      refine bse (a := ((1 : Int32), s)) (by rw [r1]; rfl) ?_
      refine ift (show mx_f1 .ne (1 : Int32) = true by decide) ?_
      by_cases d : dsw 0 4 i2 = true
      · rw [if_pos d] at hX ⊢
        exact hX
      rw [if_neg d] at hX ⊢
      by_cases x0 : i2 = 0
      · rw [if_pos x0] at hX ⊢
        exact bse (by rw [e1]; exact (aI_at (p := 89) (i := b) (n := 12) (by decide) rfl b12 (by decide)).trans (congrArg some y5)) hX
      rw [if_neg x0] at hX ⊢
      by_cases x1 : i2 = 1
      · rw [if_pos x1] at hX ⊢
        exact bse (by rw [e1]; exact (aI_at (p := 92) (i := b) (n := 12) (by decide) rfl b12 (by decide)).trans (congrArg some y7)) hX
      rw [if_neg x1] at hX ⊢
      by_cases x2 : i2 = 2
      · rw [if_pos x2] at hX ⊢
        exact bse (by rw [e1]; exact (aI_at (p := 94) (i := b) (n := 12) (by decide) rfl b12 (by decide)).trans (congrArg some m3)) hX
      rw [if_neg x2] at hX ⊢
      by_cases x3 : i2 = 3
      · rw [if_pos x3] at hX ⊢
        exact bse (by rw [e1]; exact aI_at (p := 90) (i := b) (n := 12) (by decide) rfl b12 (by decide)) hX
      rw [if_neg x3] at hX ⊢
      by_cases x4 : i2 = 4
      · rw [if_pos x4] at hX ⊢
        exact bse (by rw [e1]; exact aI_at (p := 91) (i := b) (n := 12) (by decide) rfl b12 (by decide)) hX
      rw [if_neg x4] at hX
      cases hX
    have fin : ∃ v : Int32, ∀ (α : Type) (g : Int32 → Option α), (if dsw 0 4 i2 = true then g (-1) else if i2 = 0 then g (Int32.ofNat (ka.2.1 b)) else if i2 = 1 then g (Int32.ofNat (D b)) else if i2 = 2 then g (Int32.ofNat (ms.1 b)) else if i2 = 3 then g (s.2.1 90 b) else if i2 = 4 then g (s.2.1 91 b) else none) = g v := by
      by_cases d : dsw 0 4 i2 = true
      · exact ⟨-1, fun _ g => if_pos d⟩
      have hr : ¬ (i2.toInt < 0 ∨ 4 < i2.toInt) := fun z => d (dsw_t z)
      have ei : i2 = Int32.ofNat i2.toInt.toNat := of_toNat i2 (by omega) (by omega)
      have hi : i2.toInt.toNat = 0 ∨ i2.toInt.toNat = 1 ∨ i2.toInt.toNat = 2 ∨ i2.toInt.toNat = 3 ∨ i2.toInt.toNat = 4 := by omega
      rcases hi with z | z | z | z | z <;> rw [z] at ei <;> subst ei
      · exact ⟨Int32.ofNat (ka.2.1 b), fun _ g => (if_neg d).trans (if_pos rfl)⟩
      · exact ⟨Int32.ofNat (D b), fun _ g => (if_neg d).trans ((if_neg (by decide)).trans (if_pos rfl))⟩
      · exact ⟨Int32.ofNat (ms.1 b), fun _ g => (if_neg d).trans ((if_neg (by decide)).trans ((if_neg (by decide)).trans (if_pos rfl)))⟩
      · exact ⟨s.2.1 90 b, fun _ g => (if_neg d).trans ((if_neg (by decide)).trans ((if_neg (by decide)).trans ((if_neg (by decide)).trans (if_pos rfl))))⟩
      · exact ⟨s.2.1 91 b, fun _ g => (if_neg d).trans ((if_neg (by decide)).trans ((if_neg (by decide)).trans ((if_neg (by decide)).trans ((if_neg (by decide)).trans (if_pos rfl)))))⟩
    obtain ⟨v, hv⟩ := fin
    exact ⟨v, cl _ ((hv dR (fun y => drI (some .int) y h)).trans rfl), rf _ ((hv rA (fun y => rrI (some .int) y s)).trans rfl)⟩
end JACT
