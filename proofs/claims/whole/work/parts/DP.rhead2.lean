/-! THE REFERENCE'S BUILD: it begins anew. -/
/-- what it sets before it cuts -/
def rsS (s : rS) : rS := rs_wA (rs_w (rs_w (rs_w (rs_w (rs_w (rs_w (rs_w (rs_w (rs_w (rs_w (rs_w (rs_w (rs_w (rs_w (rs_w (rs_w s 2 0) 74 0) 111 0) 72 1) 73 0) 56 0) 57 0) 58 (-1)) 10 1) 24 0) 25 0) 26 0) 32 0) 38 0) 42 0) 52 0) 77 0 0
section RI
variable {w k n M : Nat} {s : rS}
theorem t77b : rs_t 77 = (0, 73, false) := by decide
theorem r_reset (hG : rG s n) (hw : 2010 ≤ w) : s294_10 (rM w (k + 3)) w (M + 1) (Int32.ofNat n) s = (((rM w (k + 3) 302 [.ref 36] (rC n (n + 1) 0 0 (rs_w (rsS s) 5 0))).bind rxV).bind fun s92 => if mx_f1 .ne (s92.1 57) = true then s294_142 (rM w (k + 3)) w s92 else ((rM w (k + 3) 326 [.ref 36] s92).bind rxV).bind fun s98 => s294_142 (rM w (k + 3)) w s98) := by
  have hG2 : rG (rsS s) n := ⟨hG.1, hG.2⟩
  have c := rc_cut (w := w) (k := k) hG2 hw
  have e : (rM w (k + 3) 295 [.ref 36] (rsS s)).bind rxV = some (rC n (n + 1) 0 0 (rs_w (rsS s) 5 0)) := by rw [c]; rfl
  rw [s294_10, if_pos (by rw [hG.2, f2_ge]; simp)]
  have pI : ∀ (s : rS) (j : Nat) (x : Int32), rm_fit (ah_FT 15 j) (.int x) = true → rs_pI s j x = some (rs_w s j x) := fun s j x hf => if_pos hf
  rw [pI _ 2 0 rfl, Option.bind_some, pI _ 74 0 rfl, Option.bind_some, pI _ 111 0 rfl, Option.bind_some, pI _ 72 1 rfl, Option.bind_some, pI _ 73 0 rfl, Option.bind_some, pI _ 56 0 rfl, Option.bind_some, pI _ 57 0 rfl, Option.bind_some, pI _ 58 (-1) rfl, Option.bind_some, pI _ 10 1 rfl, Option.bind_some, pI _ 24 0 rfl, Option.bind_some, pI _ 25 0 rfl, Option.bind_some, pI _ 26 0 rfl, Option.bind_some, pI _ 32 0 rfl, Option.bind_some, pI _ 38 0 rfl, Option.bind_some, pI _ 42 0 rfl, Option.bind_some, pI _ 52 0 rfl, Option.bind_some, show ∀ s : rS, rs_sI s 77 0 0 = some (rs_wA s 77 0 0) from fun s => sI_at (i := 0) (by omega) t77b (by omega) (by omega), Option.bind_some]
  show ((rM w (k + 3) 295 [.ref 36] (rsS s)).bind rxV).bind _ = _
  rw [e]
  rfl
end RI
