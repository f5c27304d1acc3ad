/-! blocks -/
section N5B
variable {L : Nat} {xs : Nat → Int32} {zf : Value} {D : dD} {w : Nat} {Hz : rm_H}
theorem n5_22_17 (hE : fE5 D) (h : rm_H) (z : nF5 Hz h) : oK5 Hz (b22_17 L xs zf D w h) := by
  unfold b22_17
  repeat' (first
    | with_reducible exact o5_dr (by assumption)
    | with_reducible exact o5_so (by assumption)
    | exact o5_none
    | with_reducible exact n5_22_18 hE _ _ (by assumption)
    | with_reducible refine o5_if ?_ ?_
    | (with_reducible refine o5_pF (by decide) (by assumption) (fun _ _ => ?_))
    | (with_reducible refine o5_sI (by assumption) (fun _ _ => ?_))
    | (with_reducible refine o5_sB (by assumption) (fun _ _ => ?_))
    | (with_reducible refine o5_sR (by assumption) (fun _ _ => ?_))
    | (with_reducible refine o5_nI (by assumption) (fun _ _ => ?_))
    | (with_reducible refine o5_cp (by assumption) (fun _ _ => ?_))
    | (with_reducible refine o5_cl (by assumption) (fun _ _ => ?_))
    | (with_reducible refine o5_ap (by decide) (by assumption) (fun _ _ => ?_))
    | (with_reducible refine o5_vI hE (by decide) (by assumption) (fun _ _ => ?_))
    | (with_reducible refine o5_vV hE (by decide) (by assumption) (fun _ _ => ?_))
    | (with_reducible refine o5_vR hE (by decide) (by assumption) (fun _ _ => ?_))
    | (with_reducible refine o5_dI hE (by decide) (by assumption) (fun _ _ => ?_))
    | (with_reducible refine o5_dV hE (by decide) (by assumption) (fun _ _ => ?_))
    | (with_reducible refine o5_dR hE (by decide) (by assumption) (fun _ _ => ?_))
    | (with_reducible refine o5_nV hE (by decide) (by assumption) (fun _ _ => ?_))
    | (with_reducible refine o5_rd (fun _ => ?_)))
theorem n5_22_0 (hE : fE5 D) (o0 : Option Nat) (h : rm_H) (z : nF5 Hz h) : oK5 Hz (b22_0 L xs zf D w o0 h) := by
  unfold b22_0
  repeat' (first
    | with_reducible exact o5_dr (by assumption)
    | with_reducible exact o5_so (by assumption)
    | exact o5_none
    | with_reducible exact n5_22_17 hE _ (by assumption)
    | with_reducible exact n5_22_18 hE _ _ (by assumption)
    | with_reducible refine o5_if ?_ ?_
    | (with_reducible refine o5_pF (by decide) (by assumption) (fun _ _ => ?_))
    | (with_reducible refine o5_sI (by assumption) (fun _ _ => ?_))
    | (with_reducible refine o5_sB (by assumption) (fun _ _ => ?_))
    | (with_reducible refine o5_sR (by assumption) (fun _ _ => ?_))
    | (with_reducible refine o5_nI (by assumption) (fun _ _ => ?_))
    | (with_reducible refine o5_cp (by assumption) (fun _ _ => ?_))
    | (with_reducible refine o5_cl (by assumption) (fun _ _ => ?_))
    | (with_reducible refine o5_ap (by decide) (by assumption) (fun _ _ => ?_))
    | (with_reducible refine o5_vI hE (by decide) (by assumption) (fun _ _ => ?_))
    | (with_reducible refine o5_vV hE (by decide) (by assumption) (fun _ _ => ?_))
    | (with_reducible refine o5_vR hE (by decide) (by assumption) (fun _ _ => ?_))
    | (with_reducible refine o5_dI hE (by decide) (by assumption) (fun _ _ => ?_))
    | (with_reducible refine o5_dV hE (by decide) (by assumption) (fun _ _ => ?_))
    | (with_reducible refine o5_dR hE (by decide) (by assumption) (fun _ _ => ?_))
    | (with_reducible refine o5_nV hE (by decide) (by assumption) (fun _ _ => ?_))
    | (with_reducible refine o5_rd (fun _ => ?_)))
theorem n5_23_12 (hE : fE5 D) (s0 : Int32) (h : rm_H) (z : nF5 Hz h) : oK5 Hz (b23_12 L xs zf D w s0 h) := by
  unfold b23_12
  repeat' (first
    | with_reducible exact o5_dr (by assumption)
    | with_reducible exact o5_so (by assumption)
    | exact o5_none
    | with_reducible refine o5_if ?_ ?_
    | (with_reducible refine o5_pF (by decide) (by assumption) (fun _ _ => ?_))
    | (with_reducible refine o5_sI (by assumption) (fun _ _ => ?_))
    | (with_reducible refine o5_sB (by assumption) (fun _ _ => ?_))
    | (with_reducible refine o5_sR (by assumption) (fun _ _ => ?_))
    | (with_reducible refine o5_nI (by assumption) (fun _ _ => ?_))
    | (with_reducible refine o5_cp (by assumption) (fun _ _ => ?_))
    | (with_reducible refine o5_cl (by assumption) (fun _ _ => ?_))
    | (with_reducible refine o5_ap (by decide) (by assumption) (fun _ _ => ?_))
    | (with_reducible refine o5_vI hE (by decide) (by assumption) (fun _ _ => ?_))
    | (with_reducible refine o5_vV hE (by decide) (by assumption) (fun _ _ => ?_))
    | (with_reducible refine o5_vR hE (by decide) (by assumption) (fun _ _ => ?_))
    | (with_reducible refine o5_dI hE (by decide) (by assumption) (fun _ _ => ?_))
    | (with_reducible refine o5_dV hE (by decide) (by assumption) (fun _ _ => ?_))
    | (with_reducible refine o5_dR hE (by decide) (by assumption) (fun _ _ => ?_))
    | (with_reducible refine o5_nV hE (by decide) (by assumption) (fun _ _ => ?_))
    | (with_reducible refine o5_rd (fun _ => ?_)))
theorem n5_23_0 (hE : fE5 D) (i0 : Int32) (h : rm_H) (z : nF5 Hz h) : oK5 Hz (b23_0 L xs zf D w i0 h) := by
  unfold b23_0
  repeat' (first
    | with_reducible exact o5_dr (by assumption)
    | with_reducible exact o5_so (by assumption)
    | exact o5_none
    | with_reducible exact n5_23_12 hE _ _ (by assumption)
    | with_reducible refine o5_if ?_ ?_
    | (with_reducible refine o5_pF (by decide) (by assumption) (fun _ _ => ?_))
    | (with_reducible refine o5_sI (by assumption) (fun _ _ => ?_))
    | (with_reducible refine o5_sB (by assumption) (fun _ _ => ?_))
    | (with_reducible refine o5_sR (by assumption) (fun _ _ => ?_))
    | (with_reducible refine o5_nI (by assumption) (fun _ _ => ?_))
    | (with_reducible refine o5_cp (by assumption) (fun _ _ => ?_))
    | (with_reducible refine o5_cl (by assumption) (fun _ _ => ?_))
    | (with_reducible refine o5_ap (by decide) (by assumption) (fun _ _ => ?_))
    | (with_reducible refine o5_vI hE (by decide) (by assumption) (fun _ _ => ?_))
    | (with_reducible refine o5_vV hE (by decide) (by assumption) (fun _ _ => ?_))
    | (with_reducible refine o5_vR hE (by decide) (by assumption) (fun _ _ => ?_))
    | (with_reducible refine o5_dI hE (by decide) (by assumption) (fun _ _ => ?_))
    | (with_reducible refine o5_dV hE (by decide) (by assumption) (fun _ _ => ?_))
    | (with_reducible refine o5_dR hE (by decide) (by assumption) (fun _ _ => ?_))
    | (with_reducible refine o5_nV hE (by decide) (by assumption) (fun _ _ => ?_))
    | (with_reducible refine o5_rd (fun _ => ?_)))
theorem n5_24_0 (hE : fE5 D) (o0 : Option Nat) (h : rm_H) (z : nF5 Hz h) : oK5 Hz (b24_0 L xs zf D w o0 h) := by
  unfold b24_0
  repeat' (first
    | with_reducible exact o5_dr (by assumption)
    | with_reducible exact o5_so (by assumption)
    | exact o5_none
    | with_reducible refine o5_if ?_ ?_
    | (with_reducible refine o5_pF (by decide) (by assumption) (fun _ _ => ?_))
    | (with_reducible refine o5_sI (by assumption) (fun _ _ => ?_))
    | (with_reducible refine o5_sB (by assumption) (fun _ _ => ?_))
    | (with_reducible refine o5_sR (by assumption) (fun _ _ => ?_))
    | (with_reducible refine o5_nI (by assumption) (fun _ _ => ?_))
    | (with_reducible refine o5_cp (by assumption) (fun _ _ => ?_))
    | (with_reducible refine o5_cl (by assumption) (fun _ _ => ?_))
    | (with_reducible refine o5_ap (by decide) (by assumption) (fun _ _ => ?_))
    | (with_reducible refine o5_vI hE (by decide) (by assumption) (fun _ _ => ?_))
    | (with_reducible refine o5_vV hE (by decide) (by assumption) (fun _ _ => ?_))
    | (with_reducible refine o5_vR hE (by decide) (by assumption) (fun _ _ => ?_))
    | (with_reducible refine o5_dI hE (by decide) (by assumption) (fun _ _ => ?_))
    | (with_reducible refine o5_dV hE (by decide) (by assumption) (fun _ _ => ?_))
    | (with_reducible refine o5_dR hE (by decide) (by assumption) (fun _ _ => ?_))
    | (with_reducible refine o5_nV hE (by decide) (by assumption) (fun _ _ => ?_))
    | (with_reducible refine o5_rd (fun _ => ?_)))
theorem n5_25_0 (hE : fE5 D) (o0 : Option Nat) (i1 : Int32) (o2 : Option Nat) (i3 : Int32) (i4 : Int32) (h : rm_H) (z : nF5 Hz h) : oK5 Hz (b25_0 L xs zf D w o0 i1 o2 i3 i4 h) := by
  unfold b25_0
  repeat' (first
    | with_reducible exact o5_dr (by assumption)
    | with_reducible exact o5_so (by assumption)
    | exact o5_none
    | with_reducible refine o5_if ?_ ?_
    | (with_reducible refine o5_pF (by decide) (by assumption) (fun _ _ => ?_))
    | (with_reducible refine o5_sI (by assumption) (fun _ _ => ?_))
    | (with_reducible refine o5_sB (by assumption) (fun _ _ => ?_))
    | (with_reducible refine o5_sR (by assumption) (fun _ _ => ?_))
    | (with_reducible refine o5_nI (by assumption) (fun _ _ => ?_))
    | (with_reducible refine o5_cp (by assumption) (fun _ _ => ?_))
    | (with_reducible refine o5_cl (by assumption) (fun _ _ => ?_))
    | (with_reducible refine o5_ap (by decide) (by assumption) (fun _ _ => ?_))
    | (with_reducible refine o5_vI hE (by decide) (by assumption) (fun _ _ => ?_))
    | (with_reducible refine o5_vV hE (by decide) (by assumption) (fun _ _ => ?_))
    | (with_reducible refine o5_vR hE (by decide) (by assumption) (fun _ _ => ?_))
    | (with_reducible refine o5_dI hE (by decide) (by assumption) (fun _ _ => ?_))
    | (with_reducible refine o5_dV hE (by decide) (by assumption) (fun _ _ => ?_))
    | (with_reducible refine o5_dR hE (by decide) (by assumption) (fun _ _ => ?_))
    | (with_reducible refine o5_nV hE (by decide) (by assumption) (fun _ _ => ?_))
    | (with_reducible refine o5_rd (fun _ => ?_)))
theorem n5_26_10 (hE : fE5 D) : ∀ (n : Nat) (b0 : Option Nat) (b1 : Int32) (b2 : Option Nat) (b3 : Int32) (b4 : Int32) (b5 : Int32) (h : rm_H), nF5 Hz h → oK5 Hz (b26_10 L xs zf D w n b0 b1 b2 b3 b4 b5 h)
  | 0, _, _, _, _, _, _, _, _ => fun r s' e => by
    have e : (none : Option dR) = some (r, s') := e
    cases e
  | n + 1, b0, b1, b2, b3, b4, b5, h, z => by
    have ih := n5_26_10 hE n
    unfold b26_10
    repeat' (first
      | with_reducible exact o5_dr (by assumption)
      | with_reducible exact o5_so (by assumption)
      | exact o5_none
      | with_reducible exact ih _ _ _ _ _ _ _ (by assumption)
      | with_reducible refine o5_if ?_ ?_
      | (with_reducible refine o5_pF (by decide) (by assumption) (fun _ _ => ?_))
      | (with_reducible refine o5_sI (by assumption) (fun _ _ => ?_))
      | (with_reducible refine o5_sB (by assumption) (fun _ _ => ?_))
      | (with_reducible refine o5_sR (by assumption) (fun _ _ => ?_))
      | (with_reducible refine o5_nI (by assumption) (fun _ _ => ?_))
      | (with_reducible refine o5_cp (by assumption) (fun _ _ => ?_))
      | (with_reducible refine o5_cl (by assumption) (fun _ _ => ?_))
      | (with_reducible refine o5_ap (by decide) (by assumption) (fun _ _ => ?_))
      | (with_reducible refine o5_vI hE (by decide) (by assumption) (fun _ _ => ?_))
      | (with_reducible refine o5_vV hE (by decide) (by assumption) (fun _ _ => ?_))
      | (with_reducible refine o5_vR hE (by decide) (by assumption) (fun _ _ => ?_))
      | (with_reducible refine o5_dI hE (by decide) (by assumption) (fun _ _ => ?_))
      | (with_reducible refine o5_dV hE (by decide) (by assumption) (fun _ _ => ?_))
      | (with_reducible refine o5_dR hE (by decide) (by assumption) (fun _ _ => ?_))
      | (with_reducible refine o5_nV hE (by decide) (by assumption) (fun _ _ => ?_))
      | (with_reducible refine o5_rd (fun _ => ?_)))
theorem n5_26_0 (hE : fE5 D) (o0 : Option Nat) (i1 : Int32) (o2 : Option Nat) (i3 : Int32) (i4 : Int32) (h : rm_H) (z : nF5 Hz h) : oK5 Hz (b26_0 L xs zf D w o0 i1 o2 i3 i4 h) := by
  unfold b26_0
  repeat' (first
    | with_reducible exact o5_dr (by assumption)
    | with_reducible exact o5_so (by assumption)
    | exact o5_none
    | with_reducible exact n5_26_10 hE _ _ _ _ _ _ _ _ (by assumption)
    | with_reducible refine o5_if ?_ ?_
    | (with_reducible refine o5_pF (by decide) (by assumption) (fun _ _ => ?_))
    | (with_reducible refine o5_sI (by assumption) (fun _ _ => ?_))
    | (with_reducible refine o5_sB (by assumption) (fun _ _ => ?_))
    | (with_reducible refine o5_sR (by assumption) (fun _ _ => ?_))
    | (with_reducible refine o5_nI (by assumption) (fun _ _ => ?_))
    | (with_reducible refine o5_cp (by assumption) (fun _ _ => ?_))
    | (with_reducible refine o5_cl (by assumption) (fun _ _ => ?_))
    | (with_reducible refine o5_ap (by decide) (by assumption) (fun _ _ => ?_))
    | (with_reducible refine o5_vI hE (by decide) (by assumption) (fun _ _ => ?_))
    | (with_reducible refine o5_vV hE (by decide) (by assumption) (fun _ _ => ?_))
    | (with_reducible refine o5_vR hE (by decide) (by assumption) (fun _ _ => ?_))
    | (with_reducible refine o5_dI hE (by decide) (by assumption) (fun _ _ => ?_))
    | (with_reducible refine o5_dV hE (by decide) (by assumption) (fun _ _ => ?_))
    | (with_reducible refine o5_dR hE (by decide) (by assumption) (fun _ _ => ?_))
    | (with_reducible refine o5_nV hE (by decide) (by assumption) (fun _ _ => ?_))
    | (with_reducible refine o5_rd (fun _ => ?_)))
theorem n5_27_0 (hE : fE5 D) (i0 : Int32) (i1 : Int32) (o2 : Option Nat) (h : rm_H) (z : nF5 Hz h) : oK5 Hz (b27_0 L xs zf D w i0 i1 o2 h) := by
  unfold b27_0
  repeat' (first
    | with_reducible exact o5_dr (by assumption)
    | with_reducible exact o5_so (by assumption)
    | exact o5_none
    | with_reducible refine o5_if ?_ ?_
    | (with_reducible refine o5_pF (by decide) (by assumption) (fun _ _ => ?_))
    | (with_reducible refine o5_sI (by assumption) (fun _ _ => ?_))
    | (with_reducible refine o5_sB (by assumption) (fun _ _ => ?_))
    | (with_reducible refine o5_sR (by assumption) (fun _ _ => ?_))
    | (with_reducible refine o5_nI (by assumption) (fun _ _ => ?_))
    | (with_reducible refine o5_cp (by assumption) (fun _ _ => ?_))
    | (with_reducible refine o5_cl (by assumption) (fun _ _ => ?_))
    | (with_reducible refine o5_ap (by decide) (by assumption) (fun _ _ => ?_))
    | (with_reducible refine o5_vI hE (by decide) (by assumption) (fun _ _ => ?_))
    | (with_reducible refine o5_vV hE (by decide) (by assumption) (fun _ _ => ?_))
    | (with_reducible refine o5_vR hE (by decide) (by assumption) (fun _ _ => ?_))
    | (with_reducible refine o5_dI hE (by decide) (by assumption) (fun _ _ => ?_))
    | (with_reducible refine o5_dV hE (by decide) (by assumption) (fun _ _ => ?_))
    | (with_reducible refine o5_dR hE (by decide) (by assumption) (fun _ _ => ?_))
    | (with_reducible refine o5_nV hE (by decide) (by assumption) (fun _ _ => ?_))
    | (with_reducible refine o5_rd (fun _ => ?_)))
theorem n5_28_0 (hE : fE5 D) (o0 : Option Nat) (h : rm_H) (z : nF5 Hz h) : oK5 Hz (b28_0 L xs zf D w o0 h) := by
  unfold b28_0
  repeat' (first
    | with_reducible exact o5_dr (by assumption)
    | with_reducible exact o5_so (by assumption)
    | exact o5_none
    | with_reducible refine o5_if ?_ ?_
    | (with_reducible refine o5_pF (by decide) (by assumption) (fun _ _ => ?_))
    | (with_reducible refine o5_sI (by assumption) (fun _ _ => ?_))
    | (with_reducible refine o5_sB (by assumption) (fun _ _ => ?_))
    | (with_reducible refine o5_sR (by assumption) (fun _ _ => ?_))
    | (with_reducible refine o5_nI (by assumption) (fun _ _ => ?_))
    | (with_reducible refine o5_cp (by assumption) (fun _ _ => ?_))
    | (with_reducible refine o5_cl (by assumption) (fun _ _ => ?_))
    | (with_reducible refine o5_ap (by decide) (by assumption) (fun _ _ => ?_))
    | (with_reducible refine o5_vI hE (by decide) (by assumption) (fun _ _ => ?_))
    | (with_reducible refine o5_vV hE (by decide) (by assumption) (fun _ _ => ?_))
    | (with_reducible refine o5_vR hE (by decide) (by assumption) (fun _ _ => ?_))
    | (with_reducible refine o5_dI hE (by decide) (by assumption) (fun _ _ => ?_))
    | (with_reducible refine o5_dV hE (by decide) (by assumption) (fun _ _ => ?_))
    | (with_reducible refine o5_dR hE (by decide) (by assumption) (fun _ _ => ?_))
    | (with_reducible refine o5_nV hE (by decide) (by assumption) (fun _ _ => ?_))
    | (with_reducible refine o5_rd (fun _ => ?_)))
theorem n5_29_0 (hE : fE5 D) (i0 : Int32) (i1 : Int32) (i2 : Int32) (h : rm_H) (z : nF5 Hz h) : oK5 Hz (b29_0 L xs zf D w i0 i1 i2 h) := by
  unfold b29_0
  repeat' (first
    | with_reducible exact o5_dr (by assumption)
    | with_reducible exact o5_so (by assumption)
    | exact o5_none
    | with_reducible refine o5_if ?_ ?_
    | (with_reducible refine o5_pF (by decide) (by assumption) (fun _ _ => ?_))
    | (with_reducible refine o5_sI (by assumption) (fun _ _ => ?_))
    | (with_reducible refine o5_sB (by assumption) (fun _ _ => ?_))
    | (with_reducible refine o5_sR (by assumption) (fun _ _ => ?_))
    | (with_reducible refine o5_nI (by assumption) (fun _ _ => ?_))
    | (with_reducible refine o5_cp (by assumption) (fun _ _ => ?_))
    | (with_reducible refine o5_cl (by assumption) (fun _ _ => ?_))
    | (with_reducible refine o5_ap (by decide) (by assumption) (fun _ _ => ?_))
    | (with_reducible refine o5_vI hE (by decide) (by assumption) (fun _ _ => ?_))
    | (with_reducible refine o5_vV hE (by decide) (by assumption) (fun _ _ => ?_))
    | (with_reducible refine o5_vR hE (by decide) (by assumption) (fun _ _ => ?_))
    | (with_reducible refine o5_dI hE (by decide) (by assumption) (fun _ _ => ?_))
    | (with_reducible refine o5_dV hE (by decide) (by assumption) (fun _ _ => ?_))
    | (with_reducible refine o5_dR hE (by decide) (by assumption) (fun _ _ => ?_))
    | (with_reducible refine o5_nV hE (by decide) (by assumption) (fun _ _ => ?_))
    | (with_reducible refine o5_rd (fun _ => ?_)))
theorem n5_30_0 (hE : fE5 D) (i0 : Int32) (i1 : Int32) (i2 : Int32) (h : rm_H) (z : nF5 Hz h) : oK5 Hz (b30_0 L xs zf D w i0 i1 i2 h) := by
  unfold b30_0
  repeat' (first
    | with_reducible exact o5_dr (by assumption)
    | with_reducible exact o5_so (by assumption)
    | exact o5_none
    | with_reducible refine o5_if ?_ ?_
    | (with_reducible refine o5_pF (by decide) (by assumption) (fun _ _ => ?_))
    | (with_reducible refine o5_sI (by assumption) (fun _ _ => ?_))
    | (with_reducible refine o5_sB (by assumption) (fun _ _ => ?_))
    | (with_reducible refine o5_sR (by assumption) (fun _ _ => ?_))
    | (with_reducible refine o5_nI (by assumption) (fun _ _ => ?_))
    | (with_reducible refine o5_cp (by assumption) (fun _ _ => ?_))
    | (with_reducible refine o5_cl (by assumption) (fun _ _ => ?_))
    | (with_reducible refine o5_ap (by decide) (by assumption) (fun _ _ => ?_))
    | (with_reducible refine o5_vI hE (by decide) (by assumption) (fun _ _ => ?_))
    | (with_reducible refine o5_vV hE (by decide) (by assumption) (fun _ _ => ?_))
    | (with_reducible refine o5_vR hE (by decide) (by assumption) (fun _ _ => ?_))
    | (with_reducible refine o5_dI hE (by decide) (by assumption) (fun _ _ => ?_))
    | (with_reducible refine o5_dV hE (by decide) (by assumption) (fun _ _ => ?_))
    | (with_reducible refine o5_dR hE (by decide) (by assumption) (fun _ _ => ?_))
    | (with_reducible refine o5_nV hE (by decide) (by assumption) (fun _ _ => ?_))
    | (with_reducible refine o5_rd (fun _ => ?_)))
theorem n5_31_28 (hE : fE5 D) (o0 : Option Nat) (i1 : Int32) (i2 : Int32) (h : rm_H) (z : nF5 Hz h) : oK5 Hz (b31_28 L xs zf D w o0 i1 i2 h) := by
  unfold b31_28
  repeat' (first
    | with_reducible exact o5_dr (by assumption)
    | with_reducible exact o5_so (by assumption)
    | exact o5_none
    | with_reducible refine o5_if ?_ ?_
    | (with_reducible refine o5_pF (by decide) (by assumption) (fun _ _ => ?_))
    | (with_reducible refine o5_sI (by assumption) (fun _ _ => ?_))
    | (with_reducible refine o5_sB (by assumption) (fun _ _ => ?_))
    | (with_reducible refine o5_sR (by assumption) (fun _ _ => ?_))
    | (with_reducible refine o5_nI (by assumption) (fun _ _ => ?_))
    | (with_reducible refine o5_cp (by assumption) (fun _ _ => ?_))
    | (with_reducible refine o5_cl (by assumption) (fun _ _ => ?_))
    | (with_reducible refine o5_ap (by decide) (by assumption) (fun _ _ => ?_))
    | (with_reducible refine o5_vI hE (by decide) (by assumption) (fun _ _ => ?_))
    | (with_reducible refine o5_vV hE (by decide) (by assumption) (fun _ _ => ?_))
    | (with_reducible refine o5_vR hE (by decide) (by assumption) (fun _ _ => ?_))
    | (with_reducible refine o5_dI hE (by decide) (by assumption) (fun _ _ => ?_))
    | (with_reducible refine o5_dV hE (by decide) (by assumption) (fun _ _ => ?_))
    | (with_reducible refine o5_dR hE (by decide) (by assumption) (fun _ _ => ?_))
    | (with_reducible refine o5_nV hE (by decide) (by assumption) (fun _ _ => ?_))
    | (with_reducible refine o5_rd (fun _ => ?_)))
theorem n5_31_0 (hE : fE5 D) (o0 : Option Nat) (i1 : Int32) (i2 : Int32) (h : rm_H) (z : nF5 Hz h) : oK5 Hz (b31_0 L xs zf D w o0 i1 i2 h) := by
  unfold b31_0
  repeat' (first
    | with_reducible exact o5_dr (by assumption)
    | with_reducible exact o5_so (by assumption)
    | exact o5_none
    | with_reducible exact n5_31_28 hE _ _ _ _ (by assumption)
    | with_reducible refine o5_if ?_ ?_
    | (with_reducible refine o5_pF (by decide) (by assumption) (fun _ _ => ?_))
    | (with_reducible refine o5_sI (by assumption) (fun _ _ => ?_))
    | (with_reducible refine o5_sB (by assumption) (fun _ _ => ?_))
    | (with_reducible refine o5_sR (by assumption) (fun _ _ => ?_))
    | (with_reducible refine o5_nI (by assumption) (fun _ _ => ?_))
    | (with_reducible refine o5_cp (by assumption) (fun _ _ => ?_))
    | (with_reducible refine o5_cl (by assumption) (fun _ _ => ?_))
    | (with_reducible refine o5_ap (by decide) (by assumption) (fun _ _ => ?_))
    | (with_reducible refine o5_vI hE (by decide) (by assumption) (fun _ _ => ?_))
    | (with_reducible refine o5_vV hE (by decide) (by assumption) (fun _ _ => ?_))
    | (with_reducible refine o5_vR hE (by decide) (by assumption) (fun _ _ => ?_))
    | (with_reducible refine o5_dI hE (by decide) (by assumption) (fun _ _ => ?_))
    | (with_reducible refine o5_dV hE (by decide) (by assumption) (fun _ _ => ?_))
    | (with_reducible refine o5_dR hE (by decide) (by assumption) (fun _ _ => ?_))
    | (with_reducible refine o5_nV hE (by decide) (by assumption) (fun _ _ => ?_))
    | (with_reducible refine o5_rd (fun _ => ?_)))
theorem n5_32_0 (hE : fE5 D) (o0 : Option Nat) (i1 : Int32) (i2 : Int32) (h : rm_H) (z : nF5 Hz h) : oK5 Hz (b32_0 L xs zf D w o0 i1 i2 h) := by
  unfold b32_0
  repeat' (first
    | with_reducible exact o5_dr (by assumption)
    | with_reducible exact o5_so (by assumption)
    | exact o5_none
    | with_reducible refine o5_if ?_ ?_
    | (with_reducible refine o5_pF (by decide) (by assumption) (fun _ _ => ?_))
    | (with_reducible refine o5_sI (by assumption) (fun _ _ => ?_))
    | (with_reducible refine o5_sB (by assumption) (fun _ _ => ?_))
    | (with_reducible refine o5_sR (by assumption) (fun _ _ => ?_))
    | (with_reducible refine o5_nI (by assumption) (fun _ _ => ?_))
    | (with_reducible refine o5_cp (by assumption) (fun _ _ => ?_))
    | (with_reducible refine o5_cl (by assumption) (fun _ _ => ?_))
    | (with_reducible refine o5_ap (by decide) (by assumption) (fun _ _ => ?_))
    | (with_reducible refine o5_vI hE (by decide) (by assumption) (fun _ _ => ?_))
    | (with_reducible refine o5_vV hE (by decide) (by assumption) (fun _ _ => ?_))
    | (with_reducible refine o5_vR hE (by decide) (by assumption) (fun _ _ => ?_))
    | (with_reducible refine o5_dI hE (by decide) (by assumption) (fun _ _ => ?_))
    | (with_reducible refine o5_dV hE (by decide) (by assumption) (fun _ _ => ?_))
    | (with_reducible refine o5_dR hE (by decide) (by assumption) (fun _ _ => ?_))
    | (with_reducible refine o5_nV hE (by decide) (by assumption) (fun _ _ => ?_))
    | (with_reducible refine o5_rd (fun _ => ?_)))
theorem n5_33_0 (hE : fE5 D) (i0 : Int32) (o1 : Option Nat) (h : rm_H) (z : nF5 Hz h) : oK5 Hz (b33_0 L xs zf D w i0 o1 h) := by
  unfold b33_0
  repeat' (first
    | with_reducible exact o5_dr (by assumption)
    | with_reducible exact o5_so (by assumption)
    | exact o5_none
    | with_reducible refine o5_if ?_ ?_
    | (with_reducible refine o5_pF (by decide) (by assumption) (fun _ _ => ?_))
    | (with_reducible refine o5_sI (by assumption) (fun _ _ => ?_))
    | (with_reducible refine o5_sB (by assumption) (fun _ _ => ?_))
    | (with_reducible refine o5_sR (by assumption) (fun _ _ => ?_))
    | (with_reducible refine o5_nI (by assumption) (fun _ _ => ?_))
    | (with_reducible refine o5_cp (by assumption) (fun _ _ => ?_))
    | (with_reducible refine o5_cl (by assumption) (fun _ _ => ?_))
    | (with_reducible refine o5_ap (by decide) (by assumption) (fun _ _ => ?_))
    | (with_reducible refine o5_vI hE (by decide) (by assumption) (fun _ _ => ?_))
    | (with_reducible refine o5_vV hE (by decide) (by assumption) (fun _ _ => ?_))
    | (with_reducible refine o5_vR hE (by decide) (by assumption) (fun _ _ => ?_))
    | (with_reducible refine o5_dI hE (by decide) (by assumption) (fun _ _ => ?_))
    | (with_reducible refine o5_dV hE (by decide) (by assumption) (fun _ _ => ?_))
    | (with_reducible refine o5_dR hE (by decide) (by assumption) (fun _ _ => ?_))
    | (with_reducible refine o5_nV hE (by decide) (by assumption) (fun _ _ => ?_))
    | (with_reducible refine o5_rd (fun _ => ?_)))
theorem n5_34_0 (hE : fE5 D) (i0 : Int32) (i1 : Int32) (h : rm_H) (z : nF5 Hz h) : oK5 Hz (b34_0 L xs zf D w i0 i1 h) := by
  unfold b34_0
  repeat' (first
    | with_reducible exact o5_dr (by assumption)
    | with_reducible exact o5_so (by assumption)
    | exact o5_none
    | with_reducible refine o5_if ?_ ?_
    | (with_reducible refine o5_pF (by decide) (by assumption) (fun _ _ => ?_))
    | (with_reducible refine o5_sI (by assumption) (fun _ _ => ?_))
    | (with_reducible refine o5_sB (by assumption) (fun _ _ => ?_))
    | (with_reducible refine o5_sR (by assumption) (fun _ _ => ?_))
    | (with_reducible refine o5_nI (by assumption) (fun _ _ => ?_))
    | (with_reducible refine o5_cp (by assumption) (fun _ _ => ?_))
    | (with_reducible refine o5_cl (by assumption) (fun _ _ => ?_))
    | (with_reducible refine o5_ap (by decide) (by assumption) (fun _ _ => ?_))
    | (with_reducible refine o5_vI hE (by decide) (by assumption) (fun _ _ => ?_))
    | (with_reducible refine o5_vV hE (by decide) (by assumption) (fun _ _ => ?_))
    | (with_reducible refine o5_vR hE (by decide) (by assumption) (fun _ _ => ?_))
    | (with_reducible refine o5_dI hE (by decide) (by assumption) (fun _ _ => ?_))
    | (with_reducible refine o5_dV hE (by decide) (by assumption) (fun _ _ => ?_))
    | (with_reducible refine o5_dR hE (by decide) (by assumption) (fun _ _ => ?_))
    | (with_reducible refine o5_nV hE (by decide) (by assumption) (fun _ _ => ?_))
    | (with_reducible refine o5_rd (fun _ => ?_)))
theorem n5_35_0 (hE : fE5 D) (i0 : Int32) (i1 : Int32) (h : rm_H) (z : nF5 Hz h) : oK5 Hz (b35_0 L xs zf D w i0 i1 h) := by
  unfold b35_0
  repeat' (first
    | with_reducible exact o5_dr (by assumption)
    | with_reducible exact o5_so (by assumption)
    | exact o5_none
    | with_reducible refine o5_if ?_ ?_
    | (with_reducible refine o5_pF (by decide) (by assumption) (fun _ _ => ?_))
    | (with_reducible refine o5_sI (by assumption) (fun _ _ => ?_))
    | (with_reducible refine o5_sB (by assumption) (fun _ _ => ?_))
    | (with_reducible refine o5_sR (by assumption) (fun _ _ => ?_))
    | (with_reducible refine o5_nI (by assumption) (fun _ _ => ?_))
    | (with_reducible refine o5_cp (by assumption) (fun _ _ => ?_))
    | (with_reducible refine o5_cl (by assumption) (fun _ _ => ?_))
    | (with_reducible refine o5_ap (by decide) (by assumption) (fun _ _ => ?_))
    | (with_reducible refine o5_vI hE (by decide) (by assumption) (fun _ _ => ?_))
    | (with_reducible refine o5_vV hE (by decide) (by assumption) (fun _ _ => ?_))
    | (with_reducible refine o5_vR hE (by decide) (by assumption) (fun _ _ => ?_))
    | (with_reducible refine o5_dI hE (by decide) (by assumption) (fun _ _ => ?_))
    | (with_reducible refine o5_dV hE (by decide) (by assumption) (fun _ _ => ?_))
    | (with_reducible refine o5_dR hE (by decide) (by assumption) (fun _ _ => ?_))
    | (with_reducible refine o5_nV hE (by decide) (by assumption) (fun _ _ => ?_))
    | (with_reducible refine o5_rd (fun _ => ?_)))
theorem n5_36_15 (hE : fE5 D) (h : rm_H) (z : nF5 Hz h) : oK5 Hz (b36_15 L xs zf D w h) := by
  unfold b36_15
  repeat' (first
    | with_reducible exact o5_dr (by assumption)
    | with_reducible exact o5_so (by assumption)
    | exact o5_none
    | with_reducible refine o5_if ?_ ?_
    | (with_reducible refine o5_pF (by decide) (by assumption) (fun _ _ => ?_))
    | (with_reducible refine o5_sI (by assumption) (fun _ _ => ?_))
    | (with_reducible refine o5_sB (by assumption) (fun _ _ => ?_))
    | (with_reducible refine o5_sR (by assumption) (fun _ _ => ?_))
    | (with_reducible refine o5_nI (by assumption) (fun _ _ => ?_))
    | (with_reducible refine o5_cp (by assumption) (fun _ _ => ?_))
    | (with_reducible refine o5_cl (by assumption) (fun _ _ => ?_))
    | (with_reducible refine o5_ap (by decide) (by assumption) (fun _ _ => ?_))
    | (with_reducible refine o5_vI hE (by decide) (by assumption) (fun _ _ => ?_))
    | (with_reducible refine o5_vV hE (by decide) (by assumption) (fun _ _ => ?_))
    | (with_reducible refine o5_vR hE (by decide) (by assumption) (fun _ _ => ?_))
    | (with_reducible refine o5_dI hE (by decide) (by assumption) (fun _ _ => ?_))
    | (with_reducible refine o5_dV hE (by decide) (by assumption) (fun _ _ => ?_))
    | (with_reducible refine o5_dR hE (by decide) (by assumption) (fun _ _ => ?_))
    | (with_reducible refine o5_nV hE (by decide) (by assumption) (fun _ _ => ?_))
    | (with_reducible refine o5_rd (fun _ => ?_)))
theorem n5_36_0 (hE : fE5 D) (o0 : Option Nat) (i1 : Int32) (h : rm_H) (z : nF5 Hz h) : oK5 Hz (b36_0 L xs zf D w o0 i1 h) := by
  unfold b36_0
  repeat' (first
    | with_reducible exact o5_dr (by assumption)
    | with_reducible exact o5_so (by assumption)
    | exact o5_none
    | with_reducible exact n5_36_15 hE _ (by assumption)
    | with_reducible refine o5_if ?_ ?_
    | (with_reducible refine o5_pF (by decide) (by assumption) (fun _ _ => ?_))
    | (with_reducible refine o5_sI (by assumption) (fun _ _ => ?_))
    | (with_reducible refine o5_sB (by assumption) (fun _ _ => ?_))
    | (with_reducible refine o5_sR (by assumption) (fun _ _ => ?_))
    | (with_reducible refine o5_nI (by assumption) (fun _ _ => ?_))
    | (with_reducible refine o5_cp (by assumption) (fun _ _ => ?_))
    | (with_reducible refine o5_cl (by assumption) (fun _ _ => ?_))
    | (with_reducible refine o5_ap (by decide) (by assumption) (fun _ _ => ?_))
    | (with_reducible refine o5_vI hE (by decide) (by assumption) (fun _ _ => ?_))
    | (with_reducible refine o5_vV hE (by decide) (by assumption) (fun _ _ => ?_))
    | (with_reducible refine o5_vR hE (by decide) (by assumption) (fun _ _ => ?_))
    | (with_reducible refine o5_dI hE (by decide) (by assumption) (fun _ _ => ?_))
    | (with_reducible refine o5_dV hE (by decide) (by assumption) (fun _ _ => ?_))
    | (with_reducible refine o5_dR hE (by decide) (by assumption) (fun _ _ => ?_))
    | (with_reducible refine o5_nV hE (by decide) (by assumption) (fun _ _ => ?_))
    | (with_reducible refine o5_rd (fun _ => ?_)))
theorem n5_37_0 (hE : fE5 D) (o0 : Option Nat) (i1 : Int32) (h : rm_H) (z : nF5 Hz h) : oK5 Hz (b37_0 L xs zf D w o0 i1 h) := by
  unfold b37_0
  repeat' (first
    | with_reducible exact o5_dr (by assumption)
    | with_reducible exact o5_so (by assumption)
    | exact o5_none
    | with_reducible refine o5_if ?_ ?_
    | (with_reducible refine o5_pF (by decide) (by assumption) (fun _ _ => ?_))
    | (with_reducible refine o5_sI (by assumption) (fun _ _ => ?_))
    | (with_reducible refine o5_sB (by assumption) (fun _ _ => ?_))
    | (with_reducible refine o5_sR (by assumption) (fun _ _ => ?_))
    | (with_reducible refine o5_nI (by assumption) (fun _ _ => ?_))
    | (with_reducible refine o5_cp (by assumption) (fun _ _ => ?_))
    | (with_reducible refine o5_cl (by assumption) (fun _ _ => ?_))
    | (with_reducible refine o5_ap (by decide) (by assumption) (fun _ _ => ?_))
    | (with_reducible refine o5_vI hE (by decide) (by assumption) (fun _ _ => ?_))
    | (with_reducible refine o5_vV hE (by decide) (by assumption) (fun _ _ => ?_))
    | (with_reducible refine o5_vR hE (by decide) (by assumption) (fun _ _ => ?_))
    | (with_reducible refine o5_dI hE (by decide) (by assumption) (fun _ _ => ?_))
    | (with_reducible refine o5_dV hE (by decide) (by assumption) (fun _ _ => ?_))
    | (with_reducible refine o5_dR hE (by decide) (by assumption) (fun _ _ => ?_))
    | (with_reducible refine o5_nV hE (by decide) (by assumption) (fun _ _ => ?_))
    | (with_reducible refine o5_rd (fun _ => ?_)))
theorem n5_38_76 (hE : fE5 D) (o0 : Option Nat) (i1 : Int32) (h : rm_H) (z : nF5 Hz h) : oK5 Hz (b38_76 L xs zf D w o0 i1 h) := by
  unfold b38_76
  repeat' (first
    | with_reducible exact o5_dr (by assumption)
    | with_reducible exact o5_so (by assumption)
    | exact o5_none
    | with_reducible refine o5_if ?_ ?_
    | (with_reducible refine o5_pF (by decide) (by assumption) (fun _ _ => ?_))
    | (with_reducible refine o5_sI (by assumption) (fun _ _ => ?_))
    | (with_reducible refine o5_sB (by assumption) (fun _ _ => ?_))
    | (with_reducible refine o5_sR (by assumption) (fun _ _ => ?_))
    | (with_reducible refine o5_nI (by assumption) (fun _ _ => ?_))
    | (with_reducible refine o5_cp (by assumption) (fun _ _ => ?_))
    | (with_reducible refine o5_cl (by assumption) (fun _ _ => ?_))
    | (with_reducible refine o5_ap (by decide) (by assumption) (fun _ _ => ?_))
    | (with_reducible refine o5_vI hE (by decide) (by assumption) (fun _ _ => ?_))
    | (with_reducible refine o5_vV hE (by decide) (by assumption) (fun _ _ => ?_))
    | (with_reducible refine o5_vR hE (by decide) (by assumption) (fun _ _ => ?_))
    | (with_reducible refine o5_dI hE (by decide) (by assumption) (fun _ _ => ?_))
    | (with_reducible refine o5_dV hE (by decide) (by assumption) (fun _ _ => ?_))
    | (with_reducible refine o5_dR hE (by decide) (by assumption) (fun _ _ => ?_))
    | (with_reducible refine o5_nV hE (by decide) (by assumption) (fun _ _ => ?_))
    | (with_reducible refine o5_rd (fun _ => ?_)))
theorem n5_38_0 (hE : fE5 D) (o0 : Option Nat) (i1 : Int32) (h : rm_H) (z : nF5 Hz h) : oK5 Hz (b38_0 L xs zf D w o0 i1 h) := by
  unfold b38_0
  repeat' (first
    | with_reducible exact o5_dr (by assumption)
    | with_reducible exact o5_so (by assumption)
    | exact o5_none
    | with_reducible exact n5_38_76 hE _ _ _ (by assumption)
    | with_reducible refine o5_if ?_ ?_
    | (with_reducible refine o5_pF (by decide) (by assumption) (fun _ _ => ?_))
    | (with_reducible refine o5_sI (by assumption) (fun _ _ => ?_))
    | (with_reducible refine o5_sB (by assumption) (fun _ _ => ?_))
    | (with_reducible refine o5_sR (by assumption) (fun _ _ => ?_))
    | (with_reducible refine o5_nI (by assumption) (fun _ _ => ?_))
    | (with_reducible refine o5_cp (by assumption) (fun _ _ => ?_))
    | (with_reducible refine o5_cl (by assumption) (fun _ _ => ?_))
    | (with_reducible refine o5_ap (by decide) (by assumption) (fun _ _ => ?_))
    | (with_reducible refine o5_vI hE (by decide) (by assumption) (fun _ _ => ?_))
    | (with_reducible refine o5_vV hE (by decide) (by assumption) (fun _ _ => ?_))
    | (with_reducible refine o5_vR hE (by decide) (by assumption) (fun _ _ => ?_))
    | (with_reducible refine o5_dI hE (by decide) (by assumption) (fun _ _ => ?_))
    | (with_reducible refine o5_dV hE (by decide) (by assumption) (fun _ _ => ?_))
    | (with_reducible refine o5_dR hE (by decide) (by assumption) (fun _ _ => ?_))
    | (with_reducible refine o5_nV hE (by decide) (by assumption) (fun _ _ => ?_))
    | (with_reducible refine o5_rd (fun _ => ?_)))
theorem n5_39_0 (hE : fE5 D) (o0 : Option Nat) (i1 : Int32) (i2 : Int32) (h : rm_H) (z : nF5 Hz h) : oK5 Hz (b39_0 L xs zf D w o0 i1 i2 h) := by
  unfold b39_0
  repeat' (first
    | with_reducible exact o5_dr (by assumption)
    | with_reducible exact o5_so (by assumption)
    | exact o5_none
    | with_reducible refine o5_if ?_ ?_
    | (with_reducible refine o5_pF (by decide) (by assumption) (fun _ _ => ?_))
    | (with_reducible refine o5_sI (by assumption) (fun _ _ => ?_))
    | (with_reducible refine o5_sB (by assumption) (fun _ _ => ?_))
    | (with_reducible refine o5_sR (by assumption) (fun _ _ => ?_))
    | (with_reducible refine o5_nI (by assumption) (fun _ _ => ?_))
    | (with_reducible refine o5_cp (by assumption) (fun _ _ => ?_))
    | (with_reducible refine o5_cl (by assumption) (fun _ _ => ?_))
    | (with_reducible refine o5_ap (by decide) (by assumption) (fun _ _ => ?_))
    | (with_reducible refine o5_vI hE (by decide) (by assumption) (fun _ _ => ?_))
    | (with_reducible refine o5_vV hE (by decide) (by assumption) (fun _ _ => ?_))
    | (with_reducible refine o5_vR hE (by decide) (by assumption) (fun _ _ => ?_))
    | (with_reducible refine o5_dI hE (by decide) (by assumption) (fun _ _ => ?_))
    | (with_reducible refine o5_dV hE (by decide) (by assumption) (fun _ _ => ?_))
    | (with_reducible refine o5_dR hE (by decide) (by assumption) (fun _ _ => ?_))
    | (with_reducible refine o5_nV hE (by decide) (by assumption) (fun _ _ => ?_))
    | (with_reducible refine o5_rd (fun _ => ?_)))
end N5B
