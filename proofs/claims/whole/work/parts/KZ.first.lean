/-! THE FIRST STATE, AND THE CLAIM OUT OF THE PREMISE OF BUILD. -/
def s0Z : rS := (fun p => if p = 58 then -1 else 0, fun _ => mx_s 0 [], fun p => if p = 39 then mx_s 0 [(0, 427020088179), (1, 418280402802), (2, 7234935), (3, 6714734), (4, 25189), (5, 7758194), (6, 26982), (7, 1701606245), (8, 512852847717), (9, 1952803948), (10, 125780071117422), (11, 1734964837), (12, 6840691), (13, 1937203568), (14, 1852796517), (15, 1952999795), (16, 27988542868516197), (17, 32199625091212658), (18, 6910831), (19, 7631470), (20, 7497062), (21, 7758188), (22, 6451064), (23, 6909556)] else mx_s 0 [])
def sg0Z : cS := (fun _ => 0, fun _ => mx_s 0 [], fun b j => if j = 0 then Int32.ofNat b else 0, fun _ _ _ => 0, fun _ j => if j = 13 then 64 else 0)
section FST
variable {L : Nat} {xs : Nat → Int32} {zf : Value} {w k : Nat}
theorem z0_mo : hh_a203[15]? = some (.inr (15, rs_mo s0Z)) := rfl
theorem z0_rows : hh_a203.drop 16 = (List.range 78).map (fun q => rs_cell s0Z (q + 37)) := rfl
theorem RS_0 : RS hh_a203 s0Z := by
  refine ⟨z0_mo, fun p h1 h2 => ?_⟩
  have e : (hh_a203.drop 16)[p - 37]? = hh_a203[p - 21]? := by
    rw [List.getElem?_drop, show 16 + (p - 37) = p - 21 from by omega]
  rw [← e, z0_rows, List.getElem?_map, List.getElem?_range (by omega), Option.map_some, show p - 37 + 37 = p from by omega]
theorem wdR_0 : wdR (s0Z.2.2 39) := by
  intro i hi
  have e : ∀ i, i < 24 → wcR[i]? = some (s0Z.2.2 39 i) := by decide +kernel
  exact e i hi
theorem uA_0 : uA hh_a203 := by
  have n5 : ∀ (l : Nat) (fs : List Value), hc hh_a203 l ≠ some (.inr (5, fs)) := fun l fs e => by
    have a : (hh_a203.all fun c => match c with | .inl _ => true | .inr (ci, _) => ci != 5) = true := by decide +kernel
    have e1 : hh_a203[l - 21]? = some (.inr (5, fs)) := by
      unfold hc at e
      split at e
      · exact e
      · exact absurd e (by simp)
    have m := List.mem_of_getElem? e1
    have := List.all_eq_true.mp a _ m
    exact absurd (show (5 != 5) = true from this) (by decide)
  exact ⟨fun l ar fs e => absurd e (n5 l _), fun l l2 ar fs fs2 e _ => absurd e (n5 l _)⟩
theorem RH_0 : RH (va_rf none) 0 sg0Z (Zr 0 sg0Z) hh_a203 hh_a203 := by
  refine ⟨fr_refl _ _, fun x hx => ⟨?_, Or.inl ⟨x, hx, rfl⟩⟩, fun x y hx hy e => ?_, by omega⟩
  · have c : x = 0 ∨ x = 1 ∨ x = 2 ∨ x = 3 ∨ x = 4 ∨ x = 5 := by omega
    rcases c with c | c | c | c | c | c
    · subst c; rfl
    · subst c; rfl
    · subst c; rfl
    · subst c
      show some hb_a11 = some (vW (va_rf none) 0 sg0Z 3)
      have f : (mx_s none [] : Nat → Option Nat) = fun a => if a < 0 then some (sg0Z.2.2.2.2 a 0) else none := by
        funext a
        rw [if_neg (Nat.not_lt_zero a)]
        rfl
      unfold hb_a11
      rw [f]
      rfl
    · subst c; rfl
    · subst c; rfl
  · unfold adr at e
    rw [if_pos (by omega), if_pos (by omega)] at e
    omega
theorem Zr_0 {y : Nat} (z : Zr 0 sg0Z y) : 24 ≤ y ∧ y < 30 := by
  obtain ⟨x, hx, e⟩ := z
  unfold adr at e
  rw [if_pos (by omega)] at e
  omega
theorem iNV_0 : iNV L xs 0 hh_a203 s0Z := by
  have fb : ∀ i : Nat, fits .byte (.int ((mx_s 0 [] : Nat → Int32) i)) = true := fun i => by
    show fits .byte (.int 0) = true
    decide
  refine ⟨none, -1, -1, 23, 0, 16, 32, 16, none, 0, sg0Z, ⟨⟨0, mx_s 0 [], ⟨rfl, ⟨by decide, by decide, by decide, by decide, by decide, fb, rfl, rfl⟩, Or.inl rfl, by decide +kernel⟩, by decide, rfl, fun i hi => absurd hi (Nat.not_lt_zero i), by decide⟩, ⟨fun _ => ⟨rfl, rfl⟩, fun c => absurd rfl c⟩, wdR_0, uA_0, ⟨0, 0, 0, mx_s 0 [], mx_s 0 [], mx_s 0 [], 0, ⟨rfl, rfl, rfl, rfl, rfl, 0, 0, mx_s 0 [], ⟨by decide, by decide, by decide, by decide, by decide, fb, rfl, rfl⟩, by decide, by decide, by decide, fun i hi => absurd hi (Nat.not_lt_zero i)⟩, ⟨rfl, fun o _ => ⟨0, Nat.le_refl 0, rfl⟩⟩, Nat.le_refl 0, Or.inl rfl, by decide⟩, by decide, ⟨RH_0, fun y z => Or.inl (Zr_0 z), fun b _ => ⟨rfl, (show 64 ≤ 64 from Nat.le_refl 64), (show 64 ≤ 40000 from by decide)⟩, fun _ q _ _ => rfl⟩, Or.inl ⟨rfl, rfl, rfl⟩⟩, ?_, ?_⟩
  · have l0 : hh_a203.length = 94 := by decide +kernel
    rw [l0]
    decide
  · have z0 : zh hh_a203 = 281069 := by decide +kernel
    rw [z0]
    decide
/-- THE GOAL, out of build's premise -/
theorem goal_of (hz : zf.category = 1) (hL : L ≤ 3072) : ah_Goal L xs zf :=
  lw_goal hz 20000 (997 + 400) (by decide) (by decide) hL (iNV L xs) iNV_I s0Z iNV_0 RS_0 (fun a0 a1 a2 a3 a4 => ob_feed (by decide) a0 a1 a2 a3 a4) (fun a0 => ob_end a0) (ob_build (by decide)) (fun a => ob_fault a) (fun a => ob_prog (by decide) a) (fun a b c => ob_rights a b c) (fun a b => ob_start (by decide) a b) (fun a b => ob_step (by decide) a b) (fun a => ob_world a) (fun a b => ob_actor a b) (fun a b => ob_told a b) (fun a b => ob_show (by decide) a b) (fun a b => ob_peek (by decide) a b) (fun a => ob_letter a)
end FST
