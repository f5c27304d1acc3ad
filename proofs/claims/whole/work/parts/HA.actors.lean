/-! AN ACTOR IS MADE. -/
/-- actor n is new, at q -/
def sN (sg : cS) (n q : Nat) : cS := (sg.1, sg.2.1, fun b j => if b = n then (if j = 0 then Int32.ofNat n else 0) else sg.2.2.1 b j, fun b j => if b = n then (fun _ => 0) else sg.2.2.2.1 b j, fun b j => if b = n then (if j = 0 then q else if j = 12 then q + 5 else if j = 13 then 64 else 0) else sg.2.2.2.2 b j)
def sZr (sg : cS) (a K : Nat) (st : Int32) : cS := sA' (sA' (sA' (sA' (sA' (sA' (sA' (sK sg a K) a 2 st) a 4 0) a 5 0) a 6 0) a 11 0) a 3 0) a 13 0
section NEW
variable {L : Nat} {xs : Nat → Int32} {zf : Value} {w k : Nat} {cd : Value} {n : Nat} {sg sg' sg2 : cS} {Z : Nat → Prop} {hB h h' h2 : rm_H} {a b r j i z c K : Nat} {v : Int32} {f g : Nat → Int32}
theorem hc_mid {l : List rm_E} : hc (h ++ l) (21 + h.length + i) = l[i]? := by
  unfold hc
  rw [if_pos (by omega), show 21 + h.length + i - 21 = h.length + i from by omega, List.getElem?_append_right (by omega), show h.length + i - h.length = i from by omega]
theorem hc_apl {l : List rm_E} {p : Nat} (hp : p < 21 + h.length) : hc (h ++ l) p = hc h p := by
  unfold hc
  by_cases c : 21 ≤ p
  · rw [if_pos c, if_pos c, List.getElem?_append_left (by omega)]
  · rw [if_neg c, if_neg c]
theorem pF_mid {ci : Nat} {cis : List Nat} {fs : List Value} {u : Value} {t : List rm_E} {vv : Value} (hk : fs[j]? = some u) (hcn : cis.contains ci = true) (hf : rm_fit (ah_FT ci j) vv = true) : dpF (h ++ .inr (ci, fs) :: t) j cis (some (21 + h.length)) vv = some (h ++ .inr (ci, fs.set j vv) :: t) := by
  have e : hc (h ++ .inr (ci, fs) :: t) (21 + h.length) = some (.inr (ci, fs)) := hc_mid (i := 0)
  rw [pF_eq e hk hcn hf, show 21 + h.length - 21 = h.length from by omega, List.set_append_right _ _ (Nat.le_refl _), Nat.sub_self]
  rfl
theorem dn_10 : dnI 0 10 h = some (h ++ [iaA 10 fun _ => 0]) := by
  unfold dnI
  rw [if_pos (by decide)]
  rfl
theorem dn_42 : dnI 0 42 h = some (h ++ [iaA 42 fun _ => 0]) := by
  unfold dnI
  rw [if_pos (by decide)]
  rfl
theorem dn_64 : dnI 0 64 h = some (h ++ [iaA 64 fun _ => 0]) := by
  unfold dnI
  rw [if_pos (by decide)]
  rfl
/-- a new Actor's cells -/
def nAc (x : Int32) (q : Nat) : List rm_E := [.inr (14, [.int x, .null, .int 0, .int 0, .int 0, .int 0, .int 0, .ref (q + 1), .ref (q + 2), .ref (q + 3), .ref (q + 4), .int 0, .ref (q + 5), .int 0]), iaA 10 fun _ => 0, iaA 10 fun _ => 0, iaA 10 fun _ => 0, iaA 42 fun _ => 0, iaA 64 fun _ => 0]
theorem k_init {x : Int32} : dM L xs zf w (k + 1) 227 [.ref (21 + h.length), .int x] (h ++ [.inr (14, ah_DV 14)]) = some (none, h ++ nAc x (21 + h.length)) := by
  rw [e227]
  show b227_0 L xs zf (dM L xs zf w k) w (some (21 + h.length)) x (h ++ [.inr (14, ah_DV 14)]) = _
  unfold b227_0
  rw [if_neg (show ¬ dnl (some (21 + h.length)) = true from fun z => by cases z)]
  have lx : ∀ t : List rm_E, 21 + (h ++ t).length = 21 + h.length + t.length := fun t => by rw [List.length_append]; omega
  refine bse (pF_mid (j := 0) (t := []) (cis := [14]) (vv := .int x) rfl rfl rfl) ?_
  refine bse dn_10 ?_
  rw [lx, List.append_assoc]
  refine bse (pF_mid (j := 7) (cis := [14]) (vv := .ref (21 + h.length + 1)) rfl rfl rfl) ?_
  refine bse dn_10 ?_
  rw [lx, List.append_assoc]
  refine bse (pF_mid (j := 8) (cis := [14]) (vv := .ref (21 + h.length + 2)) rfl rfl rfl) ?_
  refine bse dn_10 ?_
  rw [lx, List.append_assoc]
  refine bse (pF_mid (j := 9) (cis := [14]) (vv := .ref (21 + h.length + 3)) rfl rfl rfl) ?_
  refine bse dn_42 ?_
  rw [lx, List.append_assoc]
  refine bse (pF_mid (j := 10) (cis := [14]) (vv := .ref (21 + h.length + 4)) rfl rfl rfl) ?_
  refine bse dn_64 ?_
  rw [lx, List.append_assoc]
  refine bse (pF_mid (j := 12) (cis := [14]) (vv := .ref (21 + h.length + 5)) rfl rfl rfl) ?_
  rfl
theorem fr_apl (Q : Nat → Prop) : ∀ (l : List rm_E) (h : rm_H), fr Q h (h ++ l)
  | [], h => by rw [List.append_nil]; exact fr_refl _ _
  | c :: l, h => by
    have := fr_apl Q l (h ++ [c])
    rw [List.append_assoc] at this
    exact fr_trans (fr_app Q c) this (fun _ _ z => z)
/-- the cells of one actor more -/
theorem RH_new (q : RH cd n sg Z hB h) (hn : n < 12) {h24 : rm_H} (s1 : st1 27 (h ++ nAc (Int32.ofNat n) (21 + h.length)) h24) (e27 : hc h24 27 = some (.inl (5, 12, .inr (.inr (.inr (.inr (va_up (fun a => if a < n then some (sg.2.2.2.2 a 0) else none) n (some (21 + h.length)))))))) ) : RH cd (n + 1) (sN sg n (21 + h.length)) Z hB h24 := by
  obtain ⟨q1, q2, q3, q4⟩ := q
  have hlt : ∀ x, x < 6 + 6 * n → adr sg x < 21 + h.length := fun x hx => hc_lt (q2 x hx).1
  have h27 : 27 < 21 + h.length := by
    have := hlt 3 (by omega)
    exact this
  have ad : ∀ x, x < 6 + 6 * n → adr (sN sg n (21 + h.length)) x = adr sg x := by
    intro x hx
    unfold adr
    by_cases c6 : x < 6
    · rw [if_pos c6, if_pos c6]
    · rw [if_neg c6, if_neg c6]
      have hb : (x - 6) / 6 ≠ n := by omega
      unfold pA
      have e : ∀ j, (sN sg n (21 + h.length)).2.2.2.2 ((x - 6) / 6) j = sg.2.2.2.2 ((x - 6) / 6) j := fun j => if_neg hb
      rw [e, e]
  have adn : ∀ r, r < 6 → adr (sN sg n (21 + h.length)) (6 * n + 6 + r) = 21 + h.length + r := by
    intro r hr
    rw [adr_a hr]
    unfold pA
    have e0 : (sN sg n (21 + h.length)).2.2.2.2 n 0 = 21 + h.length := (if_pos rfl).trans (if_pos rfl)
    have e12 : (sN sg n (21 + h.length)).2.2.2.2 n 12 = 21 + h.length + 5 := (if_pos rfl).trans ((if_neg (by decide)).trans (if_pos rfl))
    rw [e0, e12]
    by_cases c5 : r = 5
    · rw [if_pos c5, c5]
    · rw [if_neg c5]
  have new : ∀ r, r < 6 → hc h24 (21 + h.length + r) = (nAc (Int32.ofNat n) (21 + h.length))[r]? := by
    intro r hr
    rw [st1_ne s1 (by omega), hc_mid]
  have cas : ∀ x, x < 6 + 6 * (n + 1) → x < 6 + 6 * n ∨ ∃ r, r < 6 ∧ x = 6 * n + 6 + r := by
    intro x hx
    by_cases c : x < 6 + 6 * n
    · exact Or.inl c
    · exact Or.inr ⟨x - (6 * n + 6), by omega, by omega⟩
  refine ⟨fr_trans (fr_trans q1 (fr_apl (fun _ => False) _ h) (fun _ _ z => z.elim)) s1.1 (fun p hp e => ?_), fun x hx => ?_, fun x y hx hy e => ?_, by omega⟩
  · have e : p = 27 := e
    have := (q2 3 (by omega)).2
    rw [e]
    rcases this with z | z
    · exact z
    · have z : 21 + hB.length ≤ 27 := z
      omega
  · rcases cas x hx with c | ⟨r, hr, rfl⟩
    · rw [ad x c]
      refine ⟨?_, (q2 x c).2⟩
      by_cases c3 : x = 3
      · subst c3
        show hc h24 27 = _
        rw [e27]
        show some (Sum.inl (5, 12, Sum.inr (Sum.inr (Sum.inr (Sum.inr _)))) : rm_E) = some (Sum.inl (5, 12, Sum.inr (Sum.inr (Sum.inr (Sum.inr fun a => if a < n + 1 then some ((sN sg n (21 + h.length)).2.2.2.2 a 0) else none)))))
        congr 8
        funext a
        unfold va_up
        by_cases ca : a = n
        · subst ca
          rw [if_pos rfl, if_pos (Nat.lt_succ_self _)]
          have e0 : (sN sg a (21 + h.length)).2.2.2.2 a 0 = 21 + h.length := (if_pos rfl).trans (if_pos rfl)
          rw [e0]
        · rw [if_neg ca]
          have e0 : (sN sg n (21 + h.length)).2.2.2.2 a 0 = sg.2.2.2.2 a 0 := if_neg ca
          rw [e0]
          show (if a < n then some (sg.2.2.2.2 a 0) else none) = _
          by_cases cl : a < n
          · rw [if_pos cl, if_pos (by omega)]
          · rw [if_neg cl, if_neg (by omega)]
      · have hne : adr sg x ≠ 27 := by
          intro z
          exact c3 (q3 x 3 c (by omega) z)
        rw [st1_ne s1 hne, hc_apl (hlt x c), (q2 x c).1]
        congr 1
        unfold vcl
        by_cases c6 : x < 6
        · rw [if_pos c6, if_pos c6]
          have : x = 0 ∨ x = 1 ∨ x = 2 ∨ x = 4 ∨ x = 5 := by omega
          rcases this with rfl | rfl | rfl | rfl | rfl <;> rfl
        · rw [if_neg c6, if_neg c6]
          have hb : (x - 6) / 6 ≠ n := by omega
          have eA : ∀ j, (sN sg n (21 + h.length)).2.2.1 ((x - 6) / 6) j = sg.2.2.1 ((x - 6) / 6) j := fun j => if_neg hb
          have eR : ∀ j, (sN sg n (21 + h.length)).2.2.2.1 ((x - 6) / 6) j = sg.2.2.2.1 ((x - 6) / 6) j := fun j => if_neg hb
          have eP : ∀ j, (sN sg n (21 + h.length)).2.2.2.2 ((x - 6) / 6) j = sg.2.2.2.2 ((x - 6) / 6) j := fun j => if_neg hb
          have hr : (x - 6) % 6 = 0 ∨ (x - 6) % 6 = 1 ∨ (x - 6) % 6 = 2 ∨ (x - 6) % 6 = 3 ∨ (x - 6) % 6 = 4 ∨ (x - 6) % 6 = 5 := by omega
          rcases hr with e5 | e5 | e5 | e5 | e5 | e5 <;> rw [e5]
          · show aCel sg _ = aCel _ _
            unfold aCel
            simp only [eA, eP]
          · show iaA 10 _ = iaA 10 _
            rw [eR]
          · show iaA 10 _ = iaA 10 _
            rw [eR]
          · show iaA 10 _ = iaA 10 _
            rw [eR]
          · show iaA 42 _ = iaA 42 _
            rw [eR]
          · show iaA _ _ = iaA _ _
            rw [eR, eP]
    · rw [adn r hr, new r hr, vcl_a hr]
      refine ⟨?_, Or.inr (by have := q1.1; omega)⟩
      have eA : ∀ j, (sN sg n (21 + h.length)).2.2.1 n j = if j = 0 then Int32.ofNat n else 0 := fun j => if_pos rfl
      have eR : ∀ j, (sN sg n (21 + h.length)).2.2.2.1 n j = fun _ => 0 := fun j => if_pos rfl
      have eP : ∀ j, (sN sg n (21 + h.length)).2.2.2.2 n j = if j = 0 then 21 + h.length else if j = 12 then 21 + h.length + 5 else if j = 13 then 64 else 0 := fun j => if_pos rfl
      have hr' : r = 0 ∨ r = 1 ∨ r = 2 ∨ r = 3 ∨ r = 4 ∨ r = 5 := by omega
      rcases hr' with rfl | rfl | rfl | rfl | rfl | rfl
      · show some _ = some (aCel _ _)
        unfold aCel
        simp only [eA, eP]
        rfl
      · show some _ = some (iaA 10 _)
        rw [eR]
      · show some _ = some (iaA 10 _)
        rw [eR]
      · show some _ = some (iaA 10 _)
        rw [eR]
      · show some _ = some (iaA 42 _)
        rw [eR]
      · show some _ = some (iaA _ _)
        rw [eR, eP]
        rfl
  · rcases cas x hx with c | ⟨r, hr, rfl⟩
    · rcases cas y hy with d | ⟨r2, hr2, rfl⟩
      · rw [ad x c, ad y d] at e
        exact q3 x y c d e
      · rw [ad x c, adn r2 hr2] at e
        have := hlt x c
        omega
    · rcases cas y hy with d | ⟨r2, hr2, rfl⟩
      · rw [ad y d, adn r hr] at e
        have := hlt y d
        omega
      · rw [adn r hr, adn r2 hr2] at e
        omega
end NEW
