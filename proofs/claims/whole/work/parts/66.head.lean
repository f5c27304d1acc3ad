/-! THE LAW'S HEAD: both objects are made, the loop begins; printed by wip/whole/gen_p1.py. -/
def hh_a282 : rm_H := []
theorem lw_head1 (L : Nat) (xs : Nat → Int32) (zf : Value) (hz : zf.category = 1) {post : Option Value → rm_H → Prop} (hr : mx_R L xs zf ah_M0 18 [(3, .int 0), (2, .ref 36), (1, .ref 21), (0, .ref 0)] [] hh_a203 599906 7018931 2048 84000 post) : mx_R L xs zf ah_M0 0 [(0, .ref 0)] [] hh_a282 600000 7300000 2048 84000 post := by
  refine mx_new 7 0 [.null, .null, .null, .null, .int 0, .int 0] 21 3 hh_a0 599999 7299994 (by decide +kernel) (by decide +kernel) (by decide +kernel) rfl ?_
  refine mx_B 1 4 [(0, .ref 0)] [.ref 21, .ref 21] (by decide +kernel) ?_
  refine mx_call 1 3 [.ref 21] [.ref 21] [(0, .ref 21)] none hh_a30 14 2479 4 161 599985 7297515 7 [.ref 21] ap_1 (by decide +kernel) (by decide +kernel) (iv_a6 L xs zf hz) ?_
  refine mx_B 1 8 [(1, .ref 21), (0, .ref 0)] [] (by decide +kernel) ?_
  refine mx_new 10 15 [.null, .null, .int 0, .int 0, .null, .int 0, .null, .null, .null, .null, .int 0, .null, .null, .null, .null, .null, .null, .null, .null, .null, .null, .null, .null, .null, .int 0, .int 0, .int 0, .null, .null, .null, .null, .null, .int 0, .null, .null, .null, .null, .null, .int 0, .null, .null, .null, .int 0, .null, .null, .null, .null, .null, .null, .null, .null, .null, .int 0, .null, .null, .null, .int 0, .int 0, .int 0, .int 0, .int 0, .int 0, .int 0, .int 0, .int 0, .int 0, .int 0, .null, .null, .null, .null, .null, .int 0, .int 0, .int 0, .int 0, .int 0, .int 0, .int 0, .int 0, .int 0, .int 0, .int 0, .int 0, .int 0, .null, .null, .int 0, .null, .null, .null, .null, .null, .null, .null, .null, .null, .null, .null, .null, .null, .null, .null, .null, .null, .null, .null, .null, .null, .null, .null, .int 0, .null, .null, .null] 36 11 hh_a31 599984 7297400 (by decide +kernel) (by decide +kernel) (by decide +kernel) rfl ?_
  refine mx_B 1 12 [(1, .ref 21), (0, .ref 0)] [.ref 36, .ref 36] (by decide +kernel) ?_
  refine mx_call 288 3 [.ref 36] [.ref 36] [(0, .ref 36)] none hh_a203 78 278469 4 100 599906 7018931 15 [.ref 36] ap_288 (by decide +kernel) (by decide +kernel) (iv_a7 L xs zf hz) ?_
  refine mx_B 3 18 [(3, .int 0), (2, .ref 36), (1, .ref 21), (0, .ref 0)] [] (by decide +kernel) ?_
  exact hr
