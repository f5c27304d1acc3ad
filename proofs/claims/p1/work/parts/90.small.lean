/-! SCRIPTS of at most six ints; printed by wip/whole/gen_p1.py. -/
theorem lw_one (xs : Nat → Int32) (zf : Value) (hz : zf.category = 1) : mx_R 6 xs zf ah_M0 18 [(3, .int 0), (2, .ref 36), (1, .ref 21), (0, .ref 0)] [] hh_a203 599906 7021181 2048 84000 (fun v _ => v = some (.int 1)) := by
  have b := mx_15 (xs 0)
  rcases mx_cut (xs 0 &&& 15).toInt 0 1 rfl with u0 | l1
  · exact lw_case0 xs zf hz (mx_pt b.1 u0 (by decide +kernel))
  rcases mx_cut (xs 0 &&& 15).toInt 1 2 rfl with u1 | l2
  · exact lw_case1 xs zf hz (mx_pt l1 u1 (by decide +kernel))
  rcases mx_cut (xs 0 &&& 15).toInt 2 3 rfl with u2 | l3
  · exact lw_case2 xs zf hz (mx_pt l2 u2 (by decide +kernel))
  rcases mx_cut (xs 0 &&& 15).toInt 3 4 rfl with u3 | l4
  · exact lw_case3 xs zf hz (mx_pt l3 u3 (by decide +kernel))
  rcases mx_cut (xs 0 &&& 15).toInt 4 5 rfl with u4 | l5
  · exact lw_case4 xs zf hz (mx_pt l4 u4 (by decide +kernel))
  rcases mx_cut (xs 0 &&& 15).toInt 5 6 rfl with u5 | l6
  · exact lw_case5 xs zf hz (mx_pt l5 u5 (by decide +kernel))
  rcases mx_cut (xs 0 &&& 15).toInt 6 7 rfl with u6 | l7
  · exact lw_case6 xs zf hz (mx_pt l6 u6 (by decide +kernel))
  rcases mx_cut (xs 0 &&& 15).toInt 7 8 rfl with u7 | l8
  · exact lw_case7 xs zf hz (mx_pt l7 u7 (by decide +kernel))
  rcases mx_cut (xs 0 &&& 15).toInt 8 9 rfl with u8 | l9
  · exact lw_case8 xs zf hz (mx_pt l8 u8 (by decide +kernel))
  rcases mx_cut (xs 0 &&& 15).toInt 9 10 rfl with u9 | l10
  · exact lw_case9 xs zf hz (mx_pt l9 u9 (by decide +kernel))
  rcases mx_cut (xs 0 &&& 15).toInt 10 11 rfl with u10 | l11
  · exact lw_case10 xs zf hz (mx_pt l10 u10 (by decide +kernel))
  rcases mx_cut (xs 0 &&& 15).toInt 11 12 rfl with u11 | l12
  · exact lw_case11 xs zf hz (mx_pt l11 u11 (by decide +kernel))
  rcases mx_cut (xs 0 &&& 15).toInt 12 13 rfl with u12 | l13
  · exact lw_case12 xs zf hz (mx_pt l12 u12 (by decide +kernel))
  rcases mx_cut (xs 0 &&& 15).toInt 13 14 rfl with u13 | l14
  · exact lw_case13 xs zf hz (mx_pt l13 u13 (by decide +kernel))
  rcases mx_cut (xs 0 &&& 15).toInt 14 15 rfl with u14 | l15
  · exact lw_case14 xs zf hz (mx_pt l14 u14 (by decide +kernel))
  exact lw_case15 xs zf hz (mx_pt l15 b.2 (by decide +kernel))
theorem lw_small {L : Nat} (xs : Nat → Int32) (zf : Value) (hL : L ≤ 6) (hf : zf = .null ∨ zf = .ref 6) : ah_Goal L xs zf := by
  have hz : zf.category = 1 := by rcases hf with h | h <;> rw [h] <;> rfl
  show mx_R L xs zf ah_M0 0 [(0, .ref 0)] [] [] 600000 7302250 2048 84000 (fun v _ => v = some (.int 1))
  rcases L with _|_|_|_|_|_|_|L
  · exact lw_head1 _ xs zf hz (lw_short0 xs zf hz)
  · exact lw_head1 _ xs zf hz (lw_short1 xs zf hz)
  · exact lw_head1 _ xs zf hz (lw_short2 xs zf hz)
  · exact lw_head1 _ xs zf hz (lw_short3 xs zf hz)
  · exact lw_head1 _ xs zf hz (lw_short4 xs zf hz)
  · exact lw_head1 _ xs zf hz (lw_short5 xs zf hz)
  · exact lw_head1 _ xs zf hz (lw_one xs zf hz)
  · omega
