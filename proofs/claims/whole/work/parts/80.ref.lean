/-! THE REFERENCE OVER A STATE OF ITS OWN: its numbers (s.1), its arrays of ints and booleans (s.2.1), of longs (s.2.2), by place. -/
abbrev rS : Type := (Nat → Int32) × (Nat → Nat → Int32) × (Nat → Nat → Int64)
abbrev rA : Type := Option Value × rS
abbrev rE : Type := Nat → List Value → rS → Option rA
def rs_mo (s : rS) : List Value := [.ref 37, .ref 38, .int (s.1 2), .int (s.1 3), .ref 39, .int (s.1 5), .ref 40, .ref 41, .ref 42, .ref 43, .int (s.1 10), .ref 44, .ref 45, .ref 46, .ref 47, .ref 48, .ref 49, .ref 50, .ref 51, .ref 52, .ref 53, .ref 54, .ref 55, .ref 56, .int (s.1 24), .int (s.1 25), .int (s.1 26), .ref 57, .ref 58, .ref 59, .ref 60, .ref 61, .int (s.1 32), .ref 62, .ref 63, .ref 64, .ref 65, .ref 66, .int (s.1 38), .ref 67, .ref 68, .ref 69, .int (s.1 42), .ref 70, .ref 71, .ref 72, .ref 73, .ref 74, .ref 75, .ref 76, .ref 77, .ref 78, .int (s.1 52), .ref 79, .ref 80, .ref 81, .int (s.1 56), .int (s.1 57), .int (s.1 58), .int (s.1 59), .int (s.1 60), .int (s.1 61), .int (s.1 62), .int (s.1 63), .int (s.1 64), .int (s.1 65), .int (s.1 66), .ref 82, .ref 83, .ref 84, .ref 85, .ref 86, .int (s.1 72), .int (s.1 73), .int (s.1 74), .int (s.1 75), .int (s.1 76), .int (s.1 77), .int (s.1 78), .int (s.1 79), .int (s.1 80), .int (s.1 81), .int (s.1 82), .int (s.1 83), .int (s.1 84), .ref 87, .ref 88, .int (s.1 87), .ref 89, .ref 90, .ref 91, .ref 92, .ref 93, .ref 94, .ref 95, .ref 96, .ref 97, .ref 98, .ref 99, .ref 100, .ref 101, .ref 102, .ref 103, .ref 104, .ref 105, .ref 106, .ref 107, .ref 108, .ref 109, .ref 110, .ref 111, .int (s.1 111), .ref 112, .ref 113, .ref 114]
def rs_tb : List (Nat × Nat × Bool) := [(0, 2000, false), (0, 2000, false), (2, 24, true), (0, 2001, false), (0, 2001, false), (0, 2001, false), (2, 2001, true), (0, 4400, false), (0, 4400, false), (0, 4400, false), (0, 4400, false), (0, 4400, false), (0, 4400, false), (0, 4400, false), (0, 4400, false), (0, 4400, false), (0, 4400, false), (0, 4400, false), (0, 4400, false), (2, 4400, true), (0, 2000, false), (0, 2000, false), (0, 2000, false), (0, 2000, false), (2, 2000, true), (2, 8, true), (0, 8, false), (0, 9, false), (0, 9, false), (3, 8, false), (2, 64, true), (0, 64, false), (0, 64, false), (0, 72, false), (0, 72, false), (0, 72, false), (0, 72, false), (0, 72, false), (0, 72, false), (0, 72, false), (0, 73, false), (2, 72, true), (2, 440, true), (0, 440, false), (0, 440, false), (2, 16, true), (0, 16, false), (0, 16, false), (0, 16, false), (0, 4400, false), (0, 401, false), (0, 401, false), (0, 12, false), (0, 12, false), (0, 12, false), (0, 12, false), (0, 12, false), (0, 12, false), (2, 96, true), (2, 4800, true), (2, 121200, true), (0, 120, false), (0, 120, false), (2, 120, true), (2, 1920, true), (0, 72, false), (0, 72, false), (3, 72, false), (3, 28872, false), (2, 432, true), (2, 28800, true), (0, 200, false), (0, 200, false), (0, 401, false), (0, 3000, false), (3, 401, false), (0, 401, false), (0, 401, false)]
def rs_t (p : Nat) : Nat × Nat × Bool := if 37 ≤ p then (rs_tb[p - 37]?).getD (9, 0, false) else (9, 0, false)
def rs_cell (s : rS) (p : Nat) : rm_E := .inl ((rs_t p).1, (rs_t p).2.1, if (rs_t p).2.2 = true then .inr (.inl (s.2.2 p)) else .inl (s.2.1 p))
def RS (h : rm_H) (s : rS) : Prop := h[15]? = some (.inr (15, rs_mo s)) ∧ ∀ p, 37 ≤ p → p ≤ 114 → h[p - 21]? = some (rs_cell s p)
def Fr (h h' : rm_H) : Prop := h'.length = h.length ∧ zh h' = zh h ∧ ∀ q, q < 15 ∨ 94 ≤ q → h'[q]? = h[q]?
def rx (x : Option dR) (h : rm_H) (r : rA) : Prop := ∃ h', x = some (r.1, h') ∧ RS h' r.2 ∧ Fr h h'
def rs_w (s : rS) (k : Nat) (x : Int32) : rS := (upd s.1 k x, s.2)
def rs_wA (s : rS) (p j : Nat) (x : Int32) : rS := (s.1, (fun q => if q = p then upd (s.2.1 q) j x else s.2.1 q), s.2.2)
def rs_wB (s : rS) (p j : Nat) (x : Int64) : rS := (s.1, s.2.1, fun q => if q = p then vp_updL (s.2.2 q) j x else s.2.2 q)
def rs_pI (s : rS) (k : Nat) (x : Int32) : Option rS := if rm_fit (ah_FT 15 k) (.int x) = true then some (rs_w s k x) else none
def rs_in (p : Nat) : Bool := decide (37 ≤ p ∧ p ≤ 114)
def rs_aI (s : rS) (p : Nat) (i : Int32) : Option Int32 := if (rs_in p && (rs_t p).1 == 0 && !(rs_t p).2.2 && rm_in i (rs_t p).2.1) = true then some (s.2.1 p i.toNatClampNeg) else none
def rs_aB (s : rS) (p : Nat) (i : Int32) : Option Int32 := if (rs_in p && (rs_t p).1 == 3 && !(rs_t p).2.2 && rm_in i (rs_t p).2.1) = true then some (s.2.1 p i.toNatClampNeg) else none
def rs_aJ (s : rS) (p : Nat) (i : Int32) : Option Int64 := if (rs_in p && (rs_t p).1 == 2 && (rs_t p).2.2 && rm_in i (rs_t p).2.1) = true then some (s.2.2 p i.toNatClampNeg) else none
def rs_sI (s : rS) (p : Nat) (i x : Int32) : Option rS := if (rs_in p && (rs_t p).1 == 0 && !(rs_t p).2.2 && rm_in i (rs_t p).2.1) = true then some (rs_wA s p i.toNatClampNeg x) else none
def rs_sB (s : rS) (p : Nat) (i x : Int32) : Option rS := if (rs_in p && (rs_t p).1 == 3 && !(rs_t p).2.2 && rm_in i (rs_t p).2.1) = true then some (rs_wA s p i.toNatClampNeg (x &&& 1)) else none
def rs_sJ (s : rS) (p : Nat) (i : Int32) (x : Int64) : Option rS := if (rs_in p && (rs_t p).1 == 2 && (rs_t p).2.2 && rm_in i (rs_t p).2.1) = true then some (rs_wB s p i.toNatClampNeg x) else none
def rxI (r : rA) : Option (Int32 × rS) := match r.1 with
  | some (.int x) => some (x, r.2)
  | _ => none
def rxJ (r : rA) : Option (Int64 × rS) := match r.1 with
  | some (.long x) => some (x, r.2)
  | _ => none
def rxV (r : rA) : Option rS := match r.1 with
  | none => some r.2
  | _ => none
def rrI (ret : Option FieldType) (x : Int32) (s : rS) : Option rA := if rm_rt ret x = true then some (some (.int x), s) else none
def rO (D : dD) (E : rE) (L : Nat) (xs : Nat → Int32) : Prop := ∀ (mi : Nat) (As : List Value) (h : rm_H) (s : rS) (r : rA), RS h s → E mi As s = some r → rx (D mi As h) h r
section RSS
variable {L : Nat} {xs : Nat → Int32} {h : rm_H} {s : rS} {r : rA} {D : dD} {E : rE}
theorem Fr_refl : Fr h h := ⟨rfl, rfl, fun _ _ => rfl⟩
theorem Fr_trans {h1 h2 : rm_H} (a : Fr h h1) (b : Fr h1 h2) : Fr h h2 := ⟨b.1.trans a.1, b.2.1.trans a.2.1, fun q z => (b.2.2 q z).trans (a.2.2 q z)⟩
theorem rx_b {α : Type} {x : Option α} {a : α} {f : α → Option dR} (e : x = some a) (hr : rx (f a) h r) : rx (x.bind f) h r := by rw [e]; exact hr
theorem rx_w {x : Option rm_H} {h1 : rm_H} {f : rm_H → Option dR} (e : x = some h1) (hF : Fr h h1) (hr : rx (f h1) h1 r) : rx (x.bind f) h r := by
  rw [e]
  obtain ⟨h', a, b, c⟩ := hr
  exact ⟨h', a, b, Fr_trans hF c⟩
theorem rx_c {α : Type} {x : Option (α × rm_H)} {a : α} {h1 : rm_H} {f : α × rm_H → Option dR} (e : x = some (a, h1)) (hF : Fr h h1) (hr : rx (f (a, h1)) h1 r) : rx (x.bind f) h r := by
  rw [e]
  obtain ⟨h', a, b, c⟩ := hr
  exact ⟨h', a, b, Fr_trans hF c⟩
theorem rx_t {b : Bool} {x y : Option dR} (e : b = true) (hr : rx x h r) : rx (if b = true then x else y) h r := by rw [if_pos e]; exact hr
theorem rx_f {b : Bool} {x y : Option dR} (e : b = false) (hr : rx y h r) : rx (if b = true then x else y) h r := by rw [if_neg (by rw [e]; decide)]; exact hr
theorem rx_pt {p : Prop} [Decidable p] {x y : Option dR} (e : p) (hr : rx x h r) : rx (if p then x else y) h r := by rw [if_pos e]; exact hr
theorem rx_pf {p : Prop} [Decidable p] {x y : Option dR} (e : ¬ p) (hr : rx y h r) : rx (if p then x else y) h r := by rw [if_neg e]; exact hr
theorem rx_0 {v : Option Value} (hR : RS h s) : rx (some (v, h)) h (v, s) := ⟨h, rfl, hR, Fr_refl⟩
theorem rx_I {ret : Option FieldType} {x : Int32} (hR : RS h s) (hh : rrI ret x s = some r) : rx (drI ret x h) h r := by
  unfold rrI at hh
  unfold drI
  split at hh
  · rename_i z
    cases hh
    rw [if_pos z]
    exact rx_0 hR
  · cases hh
theorem rs_look {p : Nat} (hp : 21 ≤ p) : rm_look 21 (ah_O L xs) h p = h[p - 21]? := if_neg (by omega)
theorem rs_gI (hR : RS h s) (k : Nat) (x : Int32) (hk : (rs_mo s)[k]? = some (.int x)) : dgI L xs h k [15] (some 36) = some x := by
  have e : rm_look 21 (ah_O L xs) h 36 = some (.inr (15, rs_mo s)) := (rs_look (by decide)).trans hR.1
  unfold dgI dgF
  dsimp only
  rw [e]
  dsimp only
  rw [if_pos (by decide), hk]
  rfl
theorem rs_gR (hR : RS h s) (k p : Nat) (hk : (rs_mo s)[k]? = some (.ref p)) : dgR L xs h k [15] (some 36) = some (some p) := by
  have e : rm_look 21 (ah_O L xs) h 36 = some (.inr (15, rs_mo s)) := (rs_look (by decide)).trans hR.1
  unfold dgR dgF
  dsimp only
  rw [e]
  dsimp only
  rw [if_pos (by decide), hk]
  rfl
theorem rs_ce0 {p : Nat} (hJ : (rs_t p).2.2 = false) : rs_cell s p = .inl ((rs_t p).1, (rs_t p).2.1, .inl (s.2.1 p)) := by
  unfold rs_cell
  rw [if_neg (by rw [hJ]; decide)]
theorem rs_ce1 {p : Nat} (hJ : (rs_t p).2.2 = true) : rs_cell s p = .inl ((rs_t p).1, (rs_t p).2.1, .inr (.inl (s.2.2 p))) := by
  unfold rs_cell
  rw [if_pos hJ]
theorem rs_cnd {p t : Nat} {i : Int32} (q : (rs_in p && (rs_t p).1 == t && !(rs_t p).2.2 && rm_in i (rs_t p).2.1) = true) : (37 ≤ p ∧ p ≤ 114) ∧ (rs_t p).1 = t ∧ (rs_t p).2.2 = false ∧ rm_in i (rs_t p).2.1 = true := by
  obtain ⟨q, q4⟩ := Bool.and_eq_true_iff.mp q
  obtain ⟨q, q3⟩ := Bool.and_eq_true_iff.mp q
  obtain ⟨q1, q2⟩ := Bool.and_eq_true_iff.mp q
  exact ⟨of_decide_eq_true q1, eq_of_beq q2, by simpa using q3, q4⟩
theorem rs_cnd1 {p t : Nat} {i : Int32} (q : (rs_in p && (rs_t p).1 == t && (rs_t p).2.2 && rm_in i (rs_t p).2.1) = true) : (37 ≤ p ∧ p ≤ 114) ∧ (rs_t p).1 = t ∧ (rs_t p).2.2 = true ∧ rm_in i (rs_t p).2.1 = true := by
  obtain ⟨q, q4⟩ := Bool.and_eq_true_iff.mp q
  obtain ⟨q, q3⟩ := Bool.and_eq_true_iff.mp q
  obtain ⟨q1, q2⟩ := Bool.and_eq_true_iff.mp q
  exact ⟨of_decide_eq_true q1, eq_of_beq q2, q3, q4⟩
theorem rs_aI_ok {p : Nat} {i x : Int32} (hR : RS h s) (q : rs_aI s p i = some x) : daI L xs h (some p) i = some x := by
  unfold rs_aI at q
  split at q
  · rename_i c
    obtain ⟨c1, c2, c3, c4⟩ := rs_cnd c
    cases q
    unfold daI
    dsimp only
    rw [rs_look (by omega), hR.2 p c1.1 c1.2, rs_ce0 c3]
    dsimp only
    rw [if_pos ⟨by rw [c2]; rfl, c4⟩]
  · cases q
theorem rs_aB_ok {p : Nat} {i x : Int32} (hR : RS h s) (q : rs_aB s p i = some x) : daB L xs h (some p) i = some x := by
  unfold rs_aB at q
  split at q
  · rename_i c
    obtain ⟨c1, c2, c3, c4⟩ := rs_cnd c
    cases q
    unfold daB
    dsimp only
    rw [rs_look (by omega), hR.2 p c1.1 c1.2, rs_ce0 c3]
    dsimp only
    rw [if_pos ⟨by rw [c2]; exact Or.inr rfl, c4⟩]
  · cases q
theorem rs_aJ_ok {p : Nat} {i : Int32} {x : Int64} (hR : RS h s) (q : rs_aJ s p i = some x) : daJ L xs h (some p) i = some x := by
  unfold rs_aJ at q
  split at q
  · rename_i c
    obtain ⟨c1, c2, c3, c4⟩ := rs_cnd1 c
    cases q
    unfold daJ
    dsimp only
    rw [rs_look (by omega), hR.2 p c1.1 c1.2, rs_ce1 c3]
    dsimp only
    rw [if_pos ⟨by rw [c2]; rfl, c4⟩]
  · cases q
def rs_aJo (s : rS) (o : Option Nat) (i : Int32) : Option Int64 := match o with
  | some p => rs_aJ s p i
  | none => none
theorem rs_aJo_ok {o : Option Nat} {i : Int32} {x : Int64} (hR : RS h s) (q : rs_aJo s o i = some x) : daJ L xs h o i = some x := by
  cases o with
  | none => cases q
  | some p => exact rs_aJ_ok hR q
theorem rs_lt {α : Type} {l : List α} {i : Nat} {x : α} (e : l[i]? = some x) : i < l.length := by
  rcases Nat.lt_or_ge i l.length with z | z
  · exact z
  · rw [List.getElem?_eq_none z] at e; cases e
theorem rs_set_eq {l : rm_H} {i : Nat} {x y : rm_E} (e : l[i]? = some x) : (l.set i y)[i]? = some y := List.getElem?_set_self (rs_lt e)
theorem rs_set_ne {l : rm_H} {i j : Nat} {y : rm_E} (hij : i ≠ j) : (l.set i y)[j]? = l[j]? := List.getElem?_set_ne hij
theorem rs_pI_ok {k : Nat} {x : Int32} {s1 : rS} (hm : (rs_mo s).set k (.int x) = rs_mo (rs_w s k x)) (hl : k < 115) (hR : RS h s) (q : rs_pI s k x = some s1) : ∃ h1, dpF h k [15] (some 36) (.int x) = some h1 ∧ RS h1 s1 ∧ Fr h h1 := by
  unfold rs_pI at q
  split at q
  · rename_i c
    cases q
    refine ⟨h.set 15 (.inr (15, (rs_mo s).set k (.int x))), ?_, ⟨?_, ?_⟩, List.length_set, zh_set (by exact List.length_set) hR.1, ?_⟩
    · unfold dpF
      dsimp only
      rw [if_pos (by decide), hR.1]
      dsimp only
      rw [if_pos ⟨by decide, c, hl⟩]
    · rw [rs_set_eq hR.1, hm]
    · intro p h1 h2
      rw [rs_set_ne (by omega), hR.2 p h1 h2]
      rfl
    · intro q z
      exact rs_set_ne (by omega)
  · cases q
theorem rs_sI_ok {p : Nat} {i x : Int32} {s1 : rS} (hR : RS h s) (q : rs_sI s p i x = some s1) : ∃ h1, dsI h (some p) i x = some h1 ∧ RS h1 s1 ∧ Fr h h1 := by
  unfold rs_sI at q
  split at q
  · rename_i c
    obtain ⟨c1, c2, c3, c4⟩ := rs_cnd c
    cases q
    have e := hR.2 p c1.1 c1.2
    rw [rs_ce0 c3] at e
    refine ⟨h.set (p - 21) (.inl ((rs_t p).1, (rs_t p).2.1, .inl (upd (s.2.1 p) i.toNatClampNeg x))), ?_, ⟨?_, ?_⟩, List.length_set, zh_set (by rfl) e, ?_⟩
    · unfold dsI
      dsimp only
      rw [if_pos (by omega), e]
      dsimp only
      rw [if_pos ⟨by rw [c2]; rfl, c4⟩]
    · rw [rs_set_ne (by omega), hR.1]
      rfl
    · intro p' h1 h2
      by_cases hp : p' = p
      · subst hp
        rw [rs_set_eq e, rs_ce0 c3]
        unfold rs_wA
        dsimp only
        rw [if_pos rfl]
      · rw [rs_set_ne (by omega), hR.2 p' h1 h2]
        unfold rs_cell rs_wA
        dsimp only
        rw [if_neg hp]
    · intro q z
      exact rs_set_ne (by omega)
  · cases q
theorem rs_sB_ok {p : Nat} {i x : Int32} {s1 : rS} (hR : RS h s) (q : rs_sB s p i x = some s1) : ∃ h1, dsB h (some p) i x = some h1 ∧ RS h1 s1 ∧ Fr h h1 := by
  unfold rs_sB at q
  split at q
  · rename_i c
    obtain ⟨c1, c2, c3, c4⟩ := rs_cnd c
    cases q
    have e := hR.2 p c1.1 c1.2
    rw [rs_ce0 c3] at e
    refine ⟨h.set (p - 21) (.inl ((rs_t p).1, (rs_t p).2.1, .inl (upd (s.2.1 p) i.toNatClampNeg (x &&& 1)))), ?_, ⟨?_, ?_⟩, List.length_set, zh_set (by rfl) e, ?_⟩
    · unfold dsB
      dsimp only
      rw [if_pos (by omega), e]
      dsimp only
      rw [if_neg (fun z => by rw [c2] at z; exact absurd z.1 (by decide)), if_pos ⟨by rw [c2]; rfl, c4⟩]
    · rw [rs_set_ne (by omega), hR.1]
      rfl
    · intro p' h1 h2
      by_cases hp : p' = p
      · subst hp
        rw [rs_set_eq e, rs_ce0 c3]
        unfold rs_wA
        dsimp only
        rw [if_pos rfl]
      · rw [rs_set_ne (by omega), hR.2 p' h1 h2]
        unfold rs_cell rs_wA
        dsimp only
        rw [if_neg hp]
    · intro q z
      exact rs_set_ne (by omega)
  · cases q
theorem rs_sJ_ok {p : Nat} {i : Int32} {x : Int64} {s1 : rS} (hR : RS h s) (q : rs_sJ s p i x = some s1) : ∃ h1, dsJ h (some p) i x = some h1 ∧ RS h1 s1 ∧ Fr h h1 := by
  unfold rs_sJ at q
  split at q
  · rename_i c
    obtain ⟨c1, c2, c3, c4⟩ := rs_cnd1 c
    cases q
    have e := hR.2 p c1.1 c1.2
    rw [rs_ce1 c3] at e
    refine ⟨h.set (p - 21) (.inl ((rs_t p).1, (rs_t p).2.1, .inr (.inl (vp_updL (s.2.2 p) i.toNatClampNeg x)))), ?_, ⟨?_, ?_⟩, List.length_set, zh_set (by rfl) e, ?_⟩
    · unfold dsJ
      dsimp only
      rw [if_pos (by omega), e]
      dsimp only
      rw [if_pos ⟨by rw [c2]; rfl, c4⟩]
    · rw [rs_set_ne (by omega), hR.1]
      rfl
    · intro p' h1 h2
      by_cases hp : p' = p
      · subst hp
        rw [rs_set_eq e, rs_ce1 c3]
        unfold rs_wB
        dsimp only
        rw [if_pos rfl]
      · rw [rs_set_ne (by omega), hR.2 p' h1 h2]
        unfold rs_cell rs_wB
        dsimp only
        rw [if_neg hp]
    · intro q z
      exact rs_set_ne (by omega)
  · cases q
/-- calls: of the reference's own methods on itself, of its static ones -/
theorem rs_cis (hR : RS h s) : rm_cis 21 (ah_O L xs) h 36 [15] = true := by
  unfold rm_cis
  rw [rs_look (by decide), hR.1]
  rfl
theorem rs_cI (hD : rO D E L xs) {mi : Nat} {As : List Value} {y : Int32 × rS} (hR : RS h s) (q : (E mi As s).bind rxI = some y) : ∃ h1, (D mi As h).bind dxI = some (y.1, h1) ∧ RS h1 y.2 ∧ Fr h h1 := by
  obtain ⟨a, q1, q2⟩ := db q
  obtain ⟨h1, e1, e2, e3⟩ := hD mi As h s a hR q1
  unfold rxI at q2
  split at q2
  · rename_i e
    cases q2
    exact ⟨h1, by rw [e1, e]; rfl, e2, e3⟩
  · cases q2
theorem rs_cJ (hD : rO D E L xs) {mi : Nat} {As : List Value} {y : Int64 × rS} (hR : RS h s) (q : (E mi As s).bind rxJ = some y) : ∃ h1, (D mi As h).bind dxJ = some (y.1, h1) ∧ RS h1 y.2 ∧ Fr h h1 := by
  obtain ⟨a, q1, q2⟩ := db q
  obtain ⟨h1, e1, e2, e3⟩ := hD mi As h s a hR q1
  unfold rxJ at q2
  split at q2
  · rename_i e
    cases q2
    exact ⟨h1, by rw [e1, e]; rfl, e2, e3⟩
  · cases q2
theorem rs_cV (hD : rO D E L xs) {mi : Nat} {As : List Value} {y : rS} (hR : RS h s) (q : (E mi As s).bind rxV = some y) : ∃ h1, (D mi As h).bind dxV = some h1 ∧ RS h1 y ∧ Fr h h1 := by
  obtain ⟨a, q1, q2⟩ := db q
  obtain ⟨h1, e1, e2, e3⟩ := hD mi As h s a hR q1
  unfold rxV at q2
  split at q2
  · rename_i e
    cases q2
    exact ⟨h1, by rw [e1, e]; rfl, e2, e3⟩
  · cases q2
theorem rs_v {mi : Nat} {As : List Value} (hR : RS h s) : dcV L xs D mi [15] (some 36) As h = D mi (.ref 36 :: As) h := by
  unfold dcV
  dsimp only
  rw [if_pos (rs_cis hR)]
theorem rs_vI (hD : rO D E L xs) {mi : Nat} {As : List Value} {y : Int32 × rS} (hR : RS h s) (q : (E mi (.ref 36 :: As) s).bind rxI = some y) : ∃ h1, (dcV L xs D mi [15] (some 36) As h).bind dxI = some (y.1, h1) ∧ RS h1 y.2 ∧ Fr h h1 := by
  rw [rs_v hR]
  exact rs_cI hD hR q
theorem rs_vJ (hD : rO D E L xs) {mi : Nat} {As : List Value} {y : Int64 × rS} (hR : RS h s) (q : (E mi (.ref 36 :: As) s).bind rxJ = some y) : ∃ h1, (dcV L xs D mi [15] (some 36) As h).bind dxJ = some (y.1, h1) ∧ RS h1 y.2 ∧ Fr h h1 := by
  rw [rs_v hR]
  exact rs_cJ hD hR q
theorem rs_vV (hD : rO D E L xs) {mi : Nat} {As : List Value} {y : rS} (hR : RS h s) (q : (E mi (.ref 36 :: As) s).bind rxV = some y) : ∃ h1, (dcV L xs D mi [15] (some 36) As h).bind dxV = some h1 ∧ RS h1 y ∧ Fr h h1 := by
  rw [rs_v hR]
  exact rs_cV hD hR q
end RSS
theorem rs_m2 (s : rS) (x : Int32) : (rs_mo s).set 2 (.int x) = rs_mo (rs_w s 2 x) := rfl
theorem rs_m3 (s : rS) (x : Int32) : (rs_mo s).set 3 (.int x) = rs_mo (rs_w s 3 x) := rfl
theorem rs_m5 (s : rS) (x : Int32) : (rs_mo s).set 5 (.int x) = rs_mo (rs_w s 5 x) := rfl
theorem rs_m10 (s : rS) (x : Int32) : (rs_mo s).set 10 (.int x) = rs_mo (rs_w s 10 x) := rfl
theorem rs_m24 (s : rS) (x : Int32) : (rs_mo s).set 24 (.int x) = rs_mo (rs_w s 24 x) := rfl
theorem rs_m25 (s : rS) (x : Int32) : (rs_mo s).set 25 (.int x) = rs_mo (rs_w s 25 x) := rfl
theorem rs_m26 (s : rS) (x : Int32) : (rs_mo s).set 26 (.int x) = rs_mo (rs_w s 26 x) := rfl
theorem rs_m32 (s : rS) (x : Int32) : (rs_mo s).set 32 (.int x) = rs_mo (rs_w s 32 x) := rfl
theorem rs_m38 (s : rS) (x : Int32) : (rs_mo s).set 38 (.int x) = rs_mo (rs_w s 38 x) := rfl
theorem rs_m42 (s : rS) (x : Int32) : (rs_mo s).set 42 (.int x) = rs_mo (rs_w s 42 x) := rfl
theorem rs_m52 (s : rS) (x : Int32) : (rs_mo s).set 52 (.int x) = rs_mo (rs_w s 52 x) := rfl
theorem rs_m56 (s : rS) (x : Int32) : (rs_mo s).set 56 (.int x) = rs_mo (rs_w s 56 x) := rfl
theorem rs_m57 (s : rS) (x : Int32) : (rs_mo s).set 57 (.int x) = rs_mo (rs_w s 57 x) := rfl
theorem rs_m58 (s : rS) (x : Int32) : (rs_mo s).set 58 (.int x) = rs_mo (rs_w s 58 x) := rfl
theorem rs_m59 (s : rS) (x : Int32) : (rs_mo s).set 59 (.int x) = rs_mo (rs_w s 59 x) := rfl
theorem rs_m60 (s : rS) (x : Int32) : (rs_mo s).set 60 (.int x) = rs_mo (rs_w s 60 x) := rfl
theorem rs_m61 (s : rS) (x : Int32) : (rs_mo s).set 61 (.int x) = rs_mo (rs_w s 61 x) := rfl
theorem rs_m62 (s : rS) (x : Int32) : (rs_mo s).set 62 (.int x) = rs_mo (rs_w s 62 x) := rfl
theorem rs_m63 (s : rS) (x : Int32) : (rs_mo s).set 63 (.int x) = rs_mo (rs_w s 63 x) := rfl
theorem rs_m64 (s : rS) (x : Int32) : (rs_mo s).set 64 (.int x) = rs_mo (rs_w s 64 x) := rfl
theorem rs_m65 (s : rS) (x : Int32) : (rs_mo s).set 65 (.int x) = rs_mo (rs_w s 65 x) := rfl
theorem rs_m66 (s : rS) (x : Int32) : (rs_mo s).set 66 (.int x) = rs_mo (rs_w s 66 x) := rfl
theorem rs_m72 (s : rS) (x : Int32) : (rs_mo s).set 72 (.int x) = rs_mo (rs_w s 72 x) := rfl
theorem rs_m73 (s : rS) (x : Int32) : (rs_mo s).set 73 (.int x) = rs_mo (rs_w s 73 x) := rfl
theorem rs_m74 (s : rS) (x : Int32) : (rs_mo s).set 74 (.int x) = rs_mo (rs_w s 74 x) := rfl
theorem rs_m75 (s : rS) (x : Int32) : (rs_mo s).set 75 (.int x) = rs_mo (rs_w s 75 x) := rfl
theorem rs_m76 (s : rS) (x : Int32) : (rs_mo s).set 76 (.int x) = rs_mo (rs_w s 76 x) := rfl
theorem rs_m77 (s : rS) (x : Int32) : (rs_mo s).set 77 (.int x) = rs_mo (rs_w s 77 x) := rfl
theorem rs_m78 (s : rS) (x : Int32) : (rs_mo s).set 78 (.int x) = rs_mo (rs_w s 78 x) := rfl
theorem rs_m79 (s : rS) (x : Int32) : (rs_mo s).set 79 (.int x) = rs_mo (rs_w s 79 x) := rfl
theorem rs_m80 (s : rS) (x : Int32) : (rs_mo s).set 80 (.int x) = rs_mo (rs_w s 80 x) := rfl
theorem rs_m81 (s : rS) (x : Int32) : (rs_mo s).set 81 (.int x) = rs_mo (rs_w s 81 x) := rfl
theorem rs_m82 (s : rS) (x : Int32) : (rs_mo s).set 82 (.int x) = rs_mo (rs_w s 82 x) := rfl
theorem rs_m83 (s : rS) (x : Int32) : (rs_mo s).set 83 (.int x) = rs_mo (rs_w s 83 x) := rfl
theorem rs_m84 (s : rS) (x : Int32) : (rs_mo s).set 84 (.int x) = rs_mo (rs_w s 84 x) := rfl
theorem rs_m87 (s : rS) (x : Int32) : (rs_mo s).set 87 (.int x) = rs_mo (rs_w s 87 x) := rfl
theorem rs_m111 (s : rS) (x : Int32) : (rs_mo s).set 111 (.int x) = rs_mo (rs_w s 111 x) := rfl
