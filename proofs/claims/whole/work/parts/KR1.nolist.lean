/-! blocks -/
section N5B
variable {L : Nat} {xs : Nat → Int32} {zf : Value} {D : dD} {w : Nat} {Hz : rm_H}
theorem n5_5_0 (hE : fE5 D) (i0 : Int32) (h : rm_H) (z : nF5 Hz h) : oK5 Hz (b5_0 L xs zf D w i0 h) := by
  unfold b5_0
  repeat' (first
    | with_reducible exact o5_dr (by assumption)
    | with_reducible exact o5_so (by assumption)
    | exact o5_none
    | with_reducible refine o5_if ?_ ?_
    | (with_reducible refine o5_pF (by decide) (by assumption) (fun _ _ => ?_))
    | (with_reducible refine o5_sI (by assumption) (fun _ _ => ?_))
    | (with_reducible refine o5_sB (by assumption) (fun _ _ => ?_))
    | (with_reducible refine o5_sR (by assumption) (fun _ _ => ?_))
    | (with_reducible refine o5_nI (by assumption) (fun _ _ => ?_))
    | (with_reducible refine o5_cp (by assumption) (fun _ _ => ?_))
    | (with_reducible refine o5_cl (by assumption) (fun _ _ => ?_))
    | (with_reducible refine o5_ap (by decide) (by assumption) (fun _ _ => ?_))
    | (with_reducible refine o5_vI hE (by decide) (by assumption) (fun _ _ => ?_))
    | (with_reducible refine o5_vV hE (by decide) (by assumption) (fun _ _ => ?_))
    | (with_reducible refine o5_vR hE (by decide) (by assumption) (fun _ _ => ?_))
    | (with_reducible refine o5_dI hE (by decide) (by assumption) (fun _ _ => ?_))
    | (with_reducible refine o5_dV hE (by decide) (by assumption) (fun _ _ => ?_))
    | (with_reducible refine o5_dR hE (by decide) (by assumption) (fun _ _ => ?_))
    | (with_reducible refine o5_nV hE (by decide) (by assumption) (fun _ _ => ?_))
    | (with_reducible refine o5_rd (fun _ => ?_)))
theorem n5_6_0 (hE : fE5 D) (i0 : Int32) (h : rm_H) (z : nF5 Hz h) : oK5 Hz (b6_0 L xs zf D w i0 h) := by
  unfold b6_0
  repeat' (first
    | with_reducible exact o5_dr (by assumption)
    | with_reducible exact o5_so (by assumption)
    | exact o5_none
    | with_reducible refine o5_if ?_ ?_
    | (with_reducible refine o5_pF (by decide) (by assumption) (fun _ _ => ?_))
    | (with_reducible refine o5_sI (by assumption) (fun _ _ => ?_))
    | (with_reducible refine o5_sB (by assumption) (fun _ _ => ?_))
    | (with_reducible refine o5_sR (by assumption) (fun _ _ => ?_))
    | (with_reducible refine o5_nI (by assumption) (fun _ _ => ?_))
    | (with_reducible refine o5_cp (by assumption) (fun _ _ => ?_))
    | (with_reducible refine o5_cl (by assumption) (fun _ _ => ?_))
    | (with_reducible refine o5_ap (by decide) (by assumption) (fun _ _ => ?_))
    | (with_reducible refine o5_vI hE (by decide) (by assumption) (fun _ _ => ?_))
    | (with_reducible refine o5_vV hE (by decide) (by assumption) (fun _ _ => ?_))
    | (with_reducible refine o5_vR hE (by decide) (by assumption) (fun _ _ => ?_))
    | (with_reducible refine o5_dI hE (by decide) (by assumption) (fun _ _ => ?_))
    | (with_reducible refine o5_dV hE (by decide) (by assumption) (fun _ _ => ?_))
    | (with_reducible refine o5_dR hE (by decide) (by assumption) (fun _ _ => ?_))
    | (with_reducible refine o5_nV hE (by decide) (by assumption) (fun _ _ => ?_))
    | (with_reducible refine o5_rd (fun _ => ?_)))
theorem n5_9_0 (hE : fE5 D) (o0 : Option Nat) (i1 : Int32) (i2 : Int32) (i3 : Int32) (i4 : Int32) (i5 : Int32) (h : rm_H) (z : nF5 Hz h) : oK5 Hz (b9_0 L xs zf D w o0 i1 i2 i3 i4 i5 h) := by
  unfold b9_0
  repeat' (first
    | with_reducible exact o5_dr (by assumption)
    | with_reducible exact o5_so (by assumption)
    | exact o5_none
    | with_reducible refine o5_if ?_ ?_
    | (with_reducible refine o5_pF (by decide) (by assumption) (fun _ _ => ?_))
    | (with_reducible refine o5_sI (by assumption) (fun _ _ => ?_))
    | (with_reducible refine o5_sB (by assumption) (fun _ _ => ?_))
    | (with_reducible refine o5_sR (by assumption) (fun _ _ => ?_))
    | (with_reducible refine o5_nI (by assumption) (fun _ _ => ?_))
    | (with_reducible refine o5_cp (by assumption) (fun _ _ => ?_))
    | (with_reducible refine o5_cl (by assumption) (fun _ _ => ?_))
    | (with_reducible refine o5_ap (by decide) (by assumption) (fun _ _ => ?_))
    | (with_reducible refine o5_vI hE (by decide) (by assumption) (fun _ _ => ?_))
    | (with_reducible refine o5_vV hE (by decide) (by assumption) (fun _ _ => ?_))
    | (with_reducible refine o5_vR hE (by decide) (by assumption) (fun _ _ => ?_))
    | (with_reducible refine o5_dI hE (by decide) (by assumption) (fun _ _ => ?_))
    | (with_reducible refine o5_dV hE (by decide) (by assumption) (fun _ _ => ?_))
    | (with_reducible refine o5_dR hE (by decide) (by assumption) (fun _ _ => ?_))
    | (with_reducible refine o5_nV hE (by decide) (by assumption) (fun _ _ => ?_))
    | (with_reducible refine o5_rd (fun _ => ?_)))
theorem n5_10_0 (hE : fE5 D) (o0 : Option Nat) (h : rm_H) (z : nF5 Hz h) : oK5 Hz (b10_0 L xs zf D w o0 h) := by
  unfold b10_0
  repeat' (first
    | with_reducible exact o5_dr (by assumption)
    | with_reducible exact o5_so (by assumption)
    | exact o5_none
    | with_reducible refine o5_if ?_ ?_
    | (with_reducible refine o5_pF (by decide) (by assumption) (fun _ _ => ?_))
    | (with_reducible refine o5_sI (by assumption) (fun _ _ => ?_))
    | (with_reducible refine o5_sB (by assumption) (fun _ _ => ?_))
    | (with_reducible refine o5_sR (by assumption) (fun _ _ => ?_))
    | (with_reducible refine o5_nI (by assumption) (fun _ _ => ?_))
    | (with_reducible refine o5_cp (by assumption) (fun _ _ => ?_))
    | (with_reducible refine o5_cl (by assumption) (fun _ _ => ?_))
    | (with_reducible refine o5_ap (by decide) (by assumption) (fun _ _ => ?_))
    | (with_reducible refine o5_vI hE (by decide) (by assumption) (fun _ _ => ?_))
    | (with_reducible refine o5_vV hE (by decide) (by assumption) (fun _ _ => ?_))
    | (with_reducible refine o5_vR hE (by decide) (by assumption) (fun _ _ => ?_))
    | (with_reducible refine o5_dI hE (by decide) (by assumption) (fun _ _ => ?_))
    | (with_reducible refine o5_dV hE (by decide) (by assumption) (fun _ _ => ?_))
    | (with_reducible refine o5_dR hE (by decide) (by assumption) (fun _ _ => ?_))
    | (with_reducible refine o5_nV hE (by decide) (by assumption) (fun _ _ => ?_))
    | (with_reducible refine o5_rd (fun _ => ?_)))
theorem n5_11_0 (hE : fE5 D) (o0 : Option Nat) (h : rm_H) (z : nF5 Hz h) : oK5 Hz (b11_0 L xs zf D w o0 h) := by
  unfold b11_0
  repeat' (first
    | with_reducible exact o5_dr (by assumption)
    | with_reducible exact o5_so (by assumption)
    | exact o5_none
    | with_reducible refine o5_if ?_ ?_
    | (with_reducible refine o5_pF (by decide) (by assumption) (fun _ _ => ?_))
    | (with_reducible refine o5_sI (by assumption) (fun _ _ => ?_))
    | (with_reducible refine o5_sB (by assumption) (fun _ _ => ?_))
    | (with_reducible refine o5_sR (by assumption) (fun _ _ => ?_))
    | (with_reducible refine o5_nI (by assumption) (fun _ _ => ?_))
    | (with_reducible refine o5_cp (by assumption) (fun _ _ => ?_))
    | (with_reducible refine o5_cl (by assumption) (fun _ _ => ?_))
    | (with_reducible refine o5_ap (by decide) (by assumption) (fun _ _ => ?_))
    | (with_reducible refine o5_vI hE (by decide) (by assumption) (fun _ _ => ?_))
    | (with_reducible refine o5_vV hE (by decide) (by assumption) (fun _ _ => ?_))
    | (with_reducible refine o5_vR hE (by decide) (by assumption) (fun _ _ => ?_))
    | (with_reducible refine o5_dI hE (by decide) (by assumption) (fun _ _ => ?_))
    | (with_reducible refine o5_dV hE (by decide) (by assumption) (fun _ _ => ?_))
    | (with_reducible refine o5_dR hE (by decide) (by assumption) (fun _ _ => ?_))
    | (with_reducible refine o5_nV hE (by decide) (by assumption) (fun _ _ => ?_))
    | (with_reducible refine o5_rd (fun _ => ?_)))
theorem n5_12_3 (hE : fE5 D) : ∀ (n : Nat) (b0 : Option Nat) (b1 : Int32) (b2 : Int32) (h : rm_H), nF5 Hz h → oK5 Hz (b12_3 L xs zf D w n b0 b1 b2 h)
  | 0, _, _, _, _, _ => fun r s' e => by
    have e : (none : Option dR) = some (r, s') := e
    cases e
  | n + 1, b0, b1, b2, h, z => by
    have ih := n5_12_3 hE n
    unfold b12_3
    repeat' (first
      | with_reducible exact o5_dr (by assumption)
      | with_reducible exact o5_so (by assumption)
      | exact o5_none
      | with_reducible exact ih _ _ _ _ (by assumption)
      | with_reducible refine o5_if ?_ ?_
      | (with_reducible refine o5_pF (by decide) (by assumption) (fun _ _ => ?_))
      | (with_reducible refine o5_sI (by assumption) (fun _ _ => ?_))
      | (with_reducible refine o5_sB (by assumption) (fun _ _ => ?_))
      | (with_reducible refine o5_sR (by assumption) (fun _ _ => ?_))
      | (with_reducible refine o5_nI (by assumption) (fun _ _ => ?_))
      | (with_reducible refine o5_cp (by assumption) (fun _ _ => ?_))
      | (with_reducible refine o5_cl (by assumption) (fun _ _ => ?_))
      | (with_reducible refine o5_ap (by decide) (by assumption) (fun _ _ => ?_))
      | (with_reducible refine o5_vI hE (by decide) (by assumption) (fun _ _ => ?_))
      | (with_reducible refine o5_vV hE (by decide) (by assumption) (fun _ _ => ?_))
      | (with_reducible refine o5_vR hE (by decide) (by assumption) (fun _ _ => ?_))
      | (with_reducible refine o5_dI hE (by decide) (by assumption) (fun _ _ => ?_))
      | (with_reducible refine o5_dV hE (by decide) (by assumption) (fun _ _ => ?_))
      | (with_reducible refine o5_dR hE (by decide) (by assumption) (fun _ _ => ?_))
      | (with_reducible refine o5_nV hE (by decide) (by assumption) (fun _ _ => ?_))
      | (with_reducible refine o5_rd (fun _ => ?_)))
theorem n5_12_0 (hE : fE5 D) (o0 : Option Nat) (i1 : Int32) (h : rm_H) (z : nF5 Hz h) : oK5 Hz (b12_0 L xs zf D w o0 i1 h) := by
  unfold b12_0
  repeat' (first
    | with_reducible exact o5_dr (by assumption)
    | with_reducible exact o5_so (by assumption)
    | exact o5_none
    | with_reducible exact n5_12_3 hE _ _ _ _ _ (by assumption)
    | with_reducible refine o5_if ?_ ?_
    | (with_reducible refine o5_pF (by decide) (by assumption) (fun _ _ => ?_))
    | (with_reducible refine o5_sI (by assumption) (fun _ _ => ?_))
    | (with_reducible refine o5_sB (by assumption) (fun _ _ => ?_))
    | (with_reducible refine o5_sR (by assumption) (fun _ _ => ?_))
    | (with_reducible refine o5_nI (by assumption) (fun _ _ => ?_))
    | (with_reducible refine o5_cp (by assumption) (fun _ _ => ?_))
    | (with_reducible refine o5_cl (by assumption) (fun _ _ => ?_))
    | (with_reducible refine o5_ap (by decide) (by assumption) (fun _ _ => ?_))
    | (with_reducible refine o5_vI hE (by decide) (by assumption) (fun _ _ => ?_))
    | (with_reducible refine o5_vV hE (by decide) (by assumption) (fun _ _ => ?_))
    | (with_reducible refine o5_vR hE (by decide) (by assumption) (fun _ _ => ?_))
    | (with_reducible refine o5_dI hE (by decide) (by assumption) (fun _ _ => ?_))
    | (with_reducible refine o5_dV hE (by decide) (by assumption) (fun _ _ => ?_))
    | (with_reducible refine o5_dR hE (by decide) (by assumption) (fun _ _ => ?_))
    | (with_reducible refine o5_nV hE (by decide) (by assumption) (fun _ _ => ?_))
    | (with_reducible refine o5_rd (fun _ => ?_)))
theorem n5_13_0 (hE : fE5 D) (o0 : Option Nat) (i1 : Int32) (h : rm_H) (z : nF5 Hz h) : oK5 Hz (b13_0 L xs zf D w o0 i1 h) := by
  unfold b13_0
  repeat' (first
    | with_reducible exact o5_dr (by assumption)
    | with_reducible exact o5_so (by assumption)
    | exact o5_none
    | with_reducible refine o5_if ?_ ?_
    | (with_reducible refine o5_pF (by decide) (by assumption) (fun _ _ => ?_))
    | (with_reducible refine o5_sI (by assumption) (fun _ _ => ?_))
    | (with_reducible refine o5_sB (by assumption) (fun _ _ => ?_))
    | (with_reducible refine o5_sR (by assumption) (fun _ _ => ?_))
    | (with_reducible refine o5_nI (by assumption) (fun _ _ => ?_))
    | (with_reducible refine o5_cp (by assumption) (fun _ _ => ?_))
    | (with_reducible refine o5_cl (by assumption) (fun _ _ => ?_))
    | (with_reducible refine o5_ap (by decide) (by assumption) (fun _ _ => ?_))
    | (with_reducible refine o5_vI hE (by decide) (by assumption) (fun _ _ => ?_))
    | (with_reducible refine o5_vV hE (by decide) (by assumption) (fun _ _ => ?_))
    | (with_reducible refine o5_vR hE (by decide) (by assumption) (fun _ _ => ?_))
    | (with_reducible refine o5_dI hE (by decide) (by assumption) (fun _ _ => ?_))
    | (with_reducible refine o5_dV hE (by decide) (by assumption) (fun _ _ => ?_))
    | (with_reducible refine o5_dR hE (by decide) (by assumption) (fun _ _ => ?_))
    | (with_reducible refine o5_nV hE (by decide) (by assumption) (fun _ _ => ?_))
    | (with_reducible refine o5_rd (fun _ => ?_)))
theorem n5_14_75 (hE : fE5 D) (o0 : Option Nat) (h : rm_H) (z : nF5 Hz h) : oK5 Hz (b14_75 L xs zf D w o0 h) := by
  unfold b14_75
  repeat' (first
    | with_reducible exact o5_dr (by assumption)
    | with_reducible exact o5_so (by assumption)
    | exact o5_none
    | with_reducible refine o5_if ?_ ?_
    | (with_reducible refine o5_pF (by decide) (by assumption) (fun _ _ => ?_))
    | (with_reducible refine o5_sI (by assumption) (fun _ _ => ?_))
    | (with_reducible refine o5_sB (by assumption) (fun _ _ => ?_))
    | (with_reducible refine o5_sR (by assumption) (fun _ _ => ?_))
    | (with_reducible refine o5_nI (by assumption) (fun _ _ => ?_))
    | (with_reducible refine o5_cp (by assumption) (fun _ _ => ?_))
    | (with_reducible refine o5_cl (by assumption) (fun _ _ => ?_))
    | (with_reducible refine o5_ap (by decide) (by assumption) (fun _ _ => ?_))
    | (with_reducible refine o5_vI hE (by decide) (by assumption) (fun _ _ => ?_))
    | (with_reducible refine o5_vV hE (by decide) (by assumption) (fun _ _ => ?_))
    | (with_reducible refine o5_vR hE (by decide) (by assumption) (fun _ _ => ?_))
    | (with_reducible refine o5_dI hE (by decide) (by assumption) (fun _ _ => ?_))
    | (with_reducible refine o5_dV hE (by decide) (by assumption) (fun _ _ => ?_))
    | (with_reducible refine o5_dR hE (by decide) (by assumption) (fun _ _ => ?_))
    | (with_reducible refine o5_nV hE (by decide) (by assumption) (fun _ _ => ?_))
    | (with_reducible refine o5_rd (fun _ => ?_)))
theorem n5_14_56 (hE : fE5 D) (o0 : Option Nat) (i1 : Int32) (h : rm_H) (z : nF5 Hz h) : oK5 Hz (b14_56 L xs zf D w o0 i1 h) := by
  unfold b14_56
  repeat' (first
    | with_reducible exact o5_dr (by assumption)
    | with_reducible exact o5_so (by assumption)
    | exact o5_none
    | with_reducible exact n5_14_75 hE _ _ (by assumption)
    | with_reducible refine o5_if ?_ ?_
    | (with_reducible refine o5_pF (by decide) (by assumption) (fun _ _ => ?_))
    | (with_reducible refine o5_sI (by assumption) (fun _ _ => ?_))
    | (with_reducible refine o5_sB (by assumption) (fun _ _ => ?_))
    | (with_reducible refine o5_sR (by assumption) (fun _ _ => ?_))
    | (with_reducible refine o5_nI (by assumption) (fun _ _ => ?_))
    | (with_reducible refine o5_cp (by assumption) (fun _ _ => ?_))
    | (with_reducible refine o5_cl (by assumption) (fun _ _ => ?_))
    | (with_reducible refine o5_ap (by decide) (by assumption) (fun _ _ => ?_))
    | (with_reducible refine o5_vI hE (by decide) (by assumption) (fun _ _ => ?_))
    | (with_reducible refine o5_vV hE (by decide) (by assumption) (fun _ _ => ?_))
    | (with_reducible refine o5_vR hE (by decide) (by assumption) (fun _ _ => ?_))
    | (with_reducible refine o5_dI hE (by decide) (by assumption) (fun _ _ => ?_))
    | (with_reducible refine o5_dV hE (by decide) (by assumption) (fun _ _ => ?_))
    | (with_reducible refine o5_dR hE (by decide) (by assumption) (fun _ _ => ?_))
    | (with_reducible refine o5_nV hE (by decide) (by assumption) (fun _ _ => ?_))
    | (with_reducible refine o5_rd (fun _ => ?_)))
theorem n5_14_45 (hE : fE5 D) (o0 : Option Nat) (i1 : Int32) (h : rm_H) (z : nF5 Hz h) : oK5 Hz (b14_45 L xs zf D w o0 i1 h) := by
  unfold b14_45
  repeat' (first
    | with_reducible exact o5_dr (by assumption)
    | with_reducible exact o5_so (by assumption)
    | exact o5_none
    | with_reducible exact n5_14_56 hE _ _ _ (by assumption)
    | with_reducible refine o5_if ?_ ?_
    | (with_reducible refine o5_pF (by decide) (by assumption) (fun _ _ => ?_))
    | (with_reducible refine o5_sI (by assumption) (fun _ _ => ?_))
    | (with_reducible refine o5_sB (by assumption) (fun _ _ => ?_))
    | (with_reducible refine o5_sR (by assumption) (fun _ _ => ?_))
    | (with_reducible refine o5_nI (by assumption) (fun _ _ => ?_))
    | (with_reducible refine o5_cp (by assumption) (fun _ _ => ?_))
    | (with_reducible refine o5_cl (by assumption) (fun _ _ => ?_))
    | (with_reducible refine o5_ap (by decide) (by assumption) (fun _ _ => ?_))
    | (with_reducible refine o5_vI hE (by decide) (by assumption) (fun _ _ => ?_))
    | (with_reducible refine o5_vV hE (by decide) (by assumption) (fun _ _ => ?_))
    | (with_reducible refine o5_vR hE (by decide) (by assumption) (fun _ _ => ?_))
    | (with_reducible refine o5_dI hE (by decide) (by assumption) (fun _ _ => ?_))
    | (with_reducible refine o5_dV hE (by decide) (by assumption) (fun _ _ => ?_))
    | (with_reducible refine o5_dR hE (by decide) (by assumption) (fun _ _ => ?_))
    | (with_reducible refine o5_nV hE (by decide) (by assumption) (fun _ _ => ?_))
    | (with_reducible refine o5_rd (fun _ => ?_)))
theorem n5_14_0 (hE : fE5 D) (o0 : Option Nat) (i1 : Int32) (h : rm_H) (z : nF5 Hz h) : oK5 Hz (b14_0 L xs zf D w o0 i1 h) := by
  unfold b14_0
  repeat' (first
    | with_reducible exact o5_dr (by assumption)
    | with_reducible exact o5_so (by assumption)
    | exact o5_none
    | with_reducible exact n5_14_45 hE _ _ _ (by assumption)
    | with_reducible exact n5_14_75 hE _ _ (by assumption)
    | with_reducible refine o5_if ?_ ?_
    | (with_reducible refine o5_pF (by decide) (by assumption) (fun _ _ => ?_))
    | (with_reducible refine o5_sI (by assumption) (fun _ _ => ?_))
    | (with_reducible refine o5_sB (by assumption) (fun _ _ => ?_))
    | (with_reducible refine o5_sR (by assumption) (fun _ _ => ?_))
    | (with_reducible refine o5_nI (by assumption) (fun _ _ => ?_))
    | (with_reducible refine o5_cp (by assumption) (fun _ _ => ?_))
    | (with_reducible refine o5_cl (by assumption) (fun _ _ => ?_))
    | (with_reducible refine o5_ap (by decide) (by assumption) (fun _ _ => ?_))
    | (with_reducible refine o5_vI hE (by decide) (by assumption) (fun _ _ => ?_))
    | (with_reducible refine o5_vV hE (by decide) (by assumption) (fun _ _ => ?_))
    | (with_reducible refine o5_vR hE (by decide) (by assumption) (fun _ _ => ?_))
    | (with_reducible refine o5_dI hE (by decide) (by assumption) (fun _ _ => ?_))
    | (with_reducible refine o5_dV hE (by decide) (by assumption) (fun _ _ => ?_))
    | (with_reducible refine o5_dR hE (by decide) (by assumption) (fun _ _ => ?_))
    | (with_reducible refine o5_nV hE (by decide) (by assumption) (fun _ _ => ?_))
    | (with_reducible refine o5_rd (fun _ => ?_)))
theorem n5_15_38 (hE : fE5 D) (h : rm_H) (z : nF5 Hz h) : oK5 Hz (b15_38 L xs zf D w h) := by
  unfold b15_38
  repeat' (first
    | with_reducible exact o5_dr (by assumption)
    | with_reducible exact o5_so (by assumption)
    | exact o5_none
    | with_reducible refine o5_if ?_ ?_
    | (with_reducible refine o5_pF (by decide) (by assumption) (fun _ _ => ?_))
    | (with_reducible refine o5_sI (by assumption) (fun _ _ => ?_))
    | (with_reducible refine o5_sB (by assumption) (fun _ _ => ?_))
    | (with_reducible refine o5_sR (by assumption) (fun _ _ => ?_))
    | (with_reducible refine o5_nI (by assumption) (fun _ _ => ?_))
    | (with_reducible refine o5_cp (by assumption) (fun _ _ => ?_))
    | (with_reducible refine o5_cl (by assumption) (fun _ _ => ?_))
    | (with_reducible refine o5_ap (by decide) (by assumption) (fun _ _ => ?_))
    | (with_reducible refine o5_vI hE (by decide) (by assumption) (fun _ _ => ?_))
    | (with_reducible refine o5_vV hE (by decide) (by assumption) (fun _ _ => ?_))
    | (with_reducible refine o5_vR hE (by decide) (by assumption) (fun _ _ => ?_))
    | (with_reducible refine o5_dI hE (by decide) (by assumption) (fun _ _ => ?_))
    | (with_reducible refine o5_dV hE (by decide) (by assumption) (fun _ _ => ?_))
    | (with_reducible refine o5_dR hE (by decide) (by assumption) (fun _ _ => ?_))
    | (with_reducible refine o5_nV hE (by decide) (by assumption) (fun _ _ => ?_))
    | (with_reducible refine o5_rd (fun _ => ?_)))
theorem n5_15_0 (hE : fE5 D) (o0 : Option Nat) (i1 : Int32) (h : rm_H) (z : nF5 Hz h) : oK5 Hz (b15_0 L xs zf D w o0 i1 h) := by
  unfold b15_0
  repeat' (first
    | with_reducible exact o5_dr (by assumption)
    | with_reducible exact o5_so (by assumption)
    | exact o5_none
    | with_reducible exact n5_15_38 hE _ (by assumption)
    | with_reducible refine o5_if ?_ ?_
    | (with_reducible refine o5_pF (by decide) (by assumption) (fun _ _ => ?_))
    | (with_reducible refine o5_sI (by assumption) (fun _ _ => ?_))
    | (with_reducible refine o5_sB (by assumption) (fun _ _ => ?_))
    | (with_reducible refine o5_sR (by assumption) (fun _ _ => ?_))
    | (with_reducible refine o5_nI (by assumption) (fun _ _ => ?_))
    | (with_reducible refine o5_cp (by assumption) (fun _ _ => ?_))
    | (with_reducible refine o5_cl (by assumption) (fun _ _ => ?_))
    | (with_reducible refine o5_ap (by decide) (by assumption) (fun _ _ => ?_))
    | (with_reducible refine o5_vI hE (by decide) (by assumption) (fun _ _ => ?_))
    | (with_reducible refine o5_vV hE (by decide) (by assumption) (fun _ _ => ?_))
    | (with_reducible refine o5_vR hE (by decide) (by assumption) (fun _ _ => ?_))
    | (with_reducible refine o5_dI hE (by decide) (by assumption) (fun _ _ => ?_))
    | (with_reducible refine o5_dV hE (by decide) (by assumption) (fun _ _ => ?_))
    | (with_reducible refine o5_dR hE (by decide) (by assumption) (fun _ _ => ?_))
    | (with_reducible refine o5_nV hE (by decide) (by assumption) (fun _ _ => ?_))
    | (with_reducible refine o5_rd (fun _ => ?_)))
theorem n5_16_0 (hE : fE5 D) (o0 : Option Nat) (i1 : Int32) (h : rm_H) (z : nF5 Hz h) : oK5 Hz (b16_0 L xs zf D w o0 i1 h) := by
  unfold b16_0
  repeat' (first
    | with_reducible exact o5_dr (by assumption)
    | with_reducible exact o5_so (by assumption)
    | exact o5_none
    | with_reducible refine o5_if ?_ ?_
    | (with_reducible refine o5_pF (by decide) (by assumption) (fun _ _ => ?_))
    | (with_reducible refine o5_sI (by assumption) (fun _ _ => ?_))
    | (with_reducible refine o5_sB (by assumption) (fun _ _ => ?_))
    | (with_reducible refine o5_sR (by assumption) (fun _ _ => ?_))
    | (with_reducible refine o5_nI (by assumption) (fun _ _ => ?_))
    | (with_reducible refine o5_cp (by assumption) (fun _ _ => ?_))
    | (with_reducible refine o5_cl (by assumption) (fun _ _ => ?_))
    | (with_reducible refine o5_ap (by decide) (by assumption) (fun _ _ => ?_))
    | (with_reducible refine o5_vI hE (by decide) (by assumption) (fun _ _ => ?_))
    | (with_reducible refine o5_vV hE (by decide) (by assumption) (fun _ _ => ?_))
    | (with_reducible refine o5_vR hE (by decide) (by assumption) (fun _ _ => ?_))
    | (with_reducible refine o5_dI hE (by decide) (by assumption) (fun _ _ => ?_))
    | (with_reducible refine o5_dV hE (by decide) (by assumption) (fun _ _ => ?_))
    | (with_reducible refine o5_dR hE (by decide) (by assumption) (fun _ _ => ?_))
    | (with_reducible refine o5_nV hE (by decide) (by assumption) (fun _ _ => ?_))
    | (with_reducible refine o5_rd (fun _ => ?_)))
theorem n5_17_21 (hE : fE5 D) (i0 : Int32) (i1 : Int32) (h : rm_H) (z : nF5 Hz h) : oK5 Hz (b17_21 L xs zf D w i0 i1 h) := by
  unfold b17_21
  repeat' (first
    | with_reducible exact o5_dr (by assumption)
    | with_reducible exact o5_so (by assumption)
    | exact o5_none
    | with_reducible refine o5_if ?_ ?_
    | (with_reducible refine o5_pF (by decide) (by assumption) (fun _ _ => ?_))
    | (with_reducible refine o5_sI (by assumption) (fun _ _ => ?_))
    | (with_reducible refine o5_sB (by assumption) (fun _ _ => ?_))
    | (with_reducible refine o5_sR (by assumption) (fun _ _ => ?_))
    | (with_reducible refine o5_nI (by assumption) (fun _ _ => ?_))
    | (with_reducible refine o5_cp (by assumption) (fun _ _ => ?_))
    | (with_reducible refine o5_cl (by assumption) (fun _ _ => ?_))
    | (with_reducible refine o5_ap (by decide) (by assumption) (fun _ _ => ?_))
    | (with_reducible refine o5_vI hE (by decide) (by assumption) (fun _ _ => ?_))
    | (with_reducible refine o5_vV hE (by decide) (by assumption) (fun _ _ => ?_))
    | (with_reducible refine o5_vR hE (by decide) (by assumption) (fun _ _ => ?_))
    | (with_reducible refine o5_dI hE (by decide) (by assumption) (fun _ _ => ?_))
    | (with_reducible refine o5_dV hE (by decide) (by assumption) (fun _ _ => ?_))
    | (with_reducible refine o5_dR hE (by decide) (by assumption) (fun _ _ => ?_))
    | (with_reducible refine o5_nV hE (by decide) (by assumption) (fun _ _ => ?_))
    | (with_reducible refine o5_rd (fun _ => ?_)))
theorem n5_17_0 (hE : fE5 D) (i0 : Int32) (i1 : Int32) (i2 : Int32) (h : rm_H) (z : nF5 Hz h) : oK5 Hz (b17_0 L xs zf D w i0 i1 i2 h) := by
  unfold b17_0
  repeat' (first
    | with_reducible exact o5_dr (by assumption)
    | with_reducible exact o5_so (by assumption)
    | exact o5_none
    | with_reducible exact n5_17_21 hE _ _ _ (by assumption)
    | with_reducible refine o5_if ?_ ?_
    | (with_reducible refine o5_pF (by decide) (by assumption) (fun _ _ => ?_))
    | (with_reducible refine o5_sI (by assumption) (fun _ _ => ?_))
    | (with_reducible refine o5_sB (by assumption) (fun _ _ => ?_))
    | (with_reducible refine o5_sR (by assumption) (fun _ _ => ?_))
    | (with_reducible refine o5_nI (by assumption) (fun _ _ => ?_))
    | (with_reducible refine o5_cp (by assumption) (fun _ _ => ?_))
    | (with_reducible refine o5_cl (by assumption) (fun _ _ => ?_))
    | (with_reducible refine o5_ap (by decide) (by assumption) (fun _ _ => ?_))
    | (with_reducible refine o5_vI hE (by decide) (by assumption) (fun _ _ => ?_))
    | (with_reducible refine o5_vV hE (by decide) (by assumption) (fun _ _ => ?_))
    | (with_reducible refine o5_vR hE (by decide) (by assumption) (fun _ _ => ?_))
    | (with_reducible refine o5_dI hE (by decide) (by assumption) (fun _ _ => ?_))
    | (with_reducible refine o5_dV hE (by decide) (by assumption) (fun _ _ => ?_))
    | (with_reducible refine o5_dR hE (by decide) (by assumption) (fun _ _ => ?_))
    | (with_reducible refine o5_nV hE (by decide) (by assumption) (fun _ _ => ?_))
    | (with_reducible refine o5_rd (fun _ => ?_)))
theorem n5_18_10 (hE : fE5 D) (s0 : Int32) (h : rm_H) (z : nF5 Hz h) : oK5 Hz (b18_10 L xs zf D w s0 h) := by
  unfold b18_10
  repeat' (first
    | with_reducible exact o5_dr (by assumption)
    | with_reducible exact o5_so (by assumption)
    | exact o5_none
    | with_reducible refine o5_if ?_ ?_
    | (with_reducible refine o5_pF (by decide) (by assumption) (fun _ _ => ?_))
    | (with_reducible refine o5_sI (by assumption) (fun _ _ => ?_))
    | (with_reducible refine o5_sB (by assumption) (fun _ _ => ?_))
    | (with_reducible refine o5_sR (by assumption) (fun _ _ => ?_))
    | (with_reducible refine o5_nI (by assumption) (fun _ _ => ?_))
    | (with_reducible refine o5_cp (by assumption) (fun _ _ => ?_))
    | (with_reducible refine o5_cl (by assumption) (fun _ _ => ?_))
    | (with_reducible refine o5_ap (by decide) (by assumption) (fun _ _ => ?_))
    | (with_reducible refine o5_vI hE (by decide) (by assumption) (fun _ _ => ?_))
    | (with_reducible refine o5_vV hE (by decide) (by assumption) (fun _ _ => ?_))
    | (with_reducible refine o5_vR hE (by decide) (by assumption) (fun _ _ => ?_))
    | (with_reducible refine o5_dI hE (by decide) (by assumption) (fun _ _ => ?_))
    | (with_reducible refine o5_dV hE (by decide) (by assumption) (fun _ _ => ?_))
    | (with_reducible refine o5_dR hE (by decide) (by assumption) (fun _ _ => ?_))
    | (with_reducible refine o5_nV hE (by decide) (by assumption) (fun _ _ => ?_))
    | (with_reducible refine o5_rd (fun _ => ?_)))
theorem n5_18_0 (hE : fE5 D) (i0 : Int32) (i1 : Int32) (h : rm_H) (z : nF5 Hz h) : oK5 Hz (b18_0 L xs zf D w i0 i1 h) := by
  unfold b18_0
  repeat' (first
    | with_reducible exact o5_dr (by assumption)
    | with_reducible exact o5_so (by assumption)
    | exact o5_none
    | with_reducible exact n5_18_10 hE _ _ (by assumption)
    | with_reducible refine o5_if ?_ ?_
    | (with_reducible refine o5_pF (by decide) (by assumption) (fun _ _ => ?_))
    | (with_reducible refine o5_sI (by assumption) (fun _ _ => ?_))
    | (with_reducible refine o5_sB (by assumption) (fun _ _ => ?_))
    | (with_reducible refine o5_sR (by assumption) (fun _ _ => ?_))
    | (with_reducible refine o5_nI (by assumption) (fun _ _ => ?_))
    | (with_reducible refine o5_cp (by assumption) (fun _ _ => ?_))
    | (with_reducible refine o5_cl (by assumption) (fun _ _ => ?_))
    | (with_reducible refine o5_ap (by decide) (by assumption) (fun _ _ => ?_))
    | (with_reducible refine o5_vI hE (by decide) (by assumption) (fun _ _ => ?_))
    | (with_reducible refine o5_vV hE (by decide) (by assumption) (fun _ _ => ?_))
    | (with_reducible refine o5_vR hE (by decide) (by assumption) (fun _ _ => ?_))
    | (with_reducible refine o5_dI hE (by decide) (by assumption) (fun _ _ => ?_))
    | (with_reducible refine o5_dV hE (by decide) (by assumption) (fun _ _ => ?_))
    | (with_reducible refine o5_dR hE (by decide) (by assumption) (fun _ _ => ?_))
    | (with_reducible refine o5_nV hE (by decide) (by assumption) (fun _ _ => ?_))
    | (with_reducible refine o5_rd (fun _ => ?_)))
theorem n5_19_0 (hE : fE5 D) (i0 : Int32) (i1 : Int32) (h : rm_H) (z : nF5 Hz h) : oK5 Hz (b19_0 L xs zf D w i0 i1 h) := by
  unfold b19_0
  repeat' (first
    | with_reducible exact o5_dr (by assumption)
    | with_reducible exact o5_so (by assumption)
    | exact o5_none
    | with_reducible refine o5_if ?_ ?_
    | (with_reducible refine o5_pF (by decide) (by assumption) (fun _ _ => ?_))
    | (with_reducible refine o5_sI (by assumption) (fun _ _ => ?_))
    | (with_reducible refine o5_sB (by assumption) (fun _ _ => ?_))
    | (with_reducible refine o5_sR (by assumption) (fun _ _ => ?_))
    | (with_reducible refine o5_nI (by assumption) (fun _ _ => ?_))
    | (with_reducible refine o5_cp (by assumption) (fun _ _ => ?_))
    | (with_reducible refine o5_cl (by assumption) (fun _ _ => ?_))
    | (with_reducible refine o5_ap (by decide) (by assumption) (fun _ _ => ?_))
    | (with_reducible refine o5_vI hE (by decide) (by assumption) (fun _ _ => ?_))
    | (with_reducible refine o5_vV hE (by decide) (by assumption) (fun _ _ => ?_))
    | (with_reducible refine o5_vR hE (by decide) (by assumption) (fun _ _ => ?_))
    | (with_reducible refine o5_dI hE (by decide) (by assumption) (fun _ _ => ?_))
    | (with_reducible refine o5_dV hE (by decide) (by assumption) (fun _ _ => ?_))
    | (with_reducible refine o5_dR hE (by decide) (by assumption) (fun _ _ => ?_))
    | (with_reducible refine o5_nV hE (by decide) (by assumption) (fun _ _ => ?_))
    | (with_reducible refine o5_rd (fun _ => ?_)))
theorem n5_20_0 (hE : fE5 D) (o0 : Option Nat) (i1 : Int32) (h : rm_H) (z : nF5 Hz h) : oK5 Hz (b20_0 L xs zf D w o0 i1 h) := by
  unfold b20_0
  repeat' (first
    | with_reducible exact o5_dr (by assumption)
    | with_reducible exact o5_so (by assumption)
    | exact o5_none
    | with_reducible refine o5_if ?_ ?_
    | (with_reducible refine o5_pF (by decide) (by assumption) (fun _ _ => ?_))
    | (with_reducible refine o5_sI (by assumption) (fun _ _ => ?_))
    | (with_reducible refine o5_sB (by assumption) (fun _ _ => ?_))
    | (with_reducible refine o5_sR (by assumption) (fun _ _ => ?_))
    | (with_reducible refine o5_nI (by assumption) (fun _ _ => ?_))
    | (with_reducible refine o5_cp (by assumption) (fun _ _ => ?_))
    | (with_reducible refine o5_cl (by assumption) (fun _ _ => ?_))
    | (with_reducible refine o5_ap (by decide) (by assumption) (fun _ _ => ?_))
    | (with_reducible refine o5_vI hE (by decide) (by assumption) (fun _ _ => ?_))
    | (with_reducible refine o5_vV hE (by decide) (by assumption) (fun _ _ => ?_))
    | (with_reducible refine o5_vR hE (by decide) (by assumption) (fun _ _ => ?_))
    | (with_reducible refine o5_dI hE (by decide) (by assumption) (fun _ _ => ?_))
    | (with_reducible refine o5_dV hE (by decide) (by assumption) (fun _ _ => ?_))
    | (with_reducible refine o5_dR hE (by decide) (by assumption) (fun _ _ => ?_))
    | (with_reducible refine o5_nV hE (by decide) (by assumption) (fun _ _ => ?_))
    | (with_reducible refine o5_rd (fun _ => ?_)))
theorem n5_21_10 (hE : fE5 D) (s0 : Int32) (h : rm_H) (z : nF5 Hz h) : oK5 Hz (b21_10 L xs zf D w s0 h) := by
  unfold b21_10
  repeat' (first
    | with_reducible exact o5_dr (by assumption)
    | with_reducible exact o5_so (by assumption)
    | exact o5_none
    | with_reducible refine o5_if ?_ ?_
    | (with_reducible refine o5_pF (by decide) (by assumption) (fun _ _ => ?_))
    | (with_reducible refine o5_sI (by assumption) (fun _ _ => ?_))
    | (with_reducible refine o5_sB (by assumption) (fun _ _ => ?_))
    | (with_reducible refine o5_sR (by assumption) (fun _ _ => ?_))
    | (with_reducible refine o5_nI (by assumption) (fun _ _ => ?_))
    | (with_reducible refine o5_cp (by assumption) (fun _ _ => ?_))
    | (with_reducible refine o5_cl (by assumption) (fun _ _ => ?_))
    | (with_reducible refine o5_ap (by decide) (by assumption) (fun _ _ => ?_))
    | (with_reducible refine o5_vI hE (by decide) (by assumption) (fun _ _ => ?_))
    | (with_reducible refine o5_vV hE (by decide) (by assumption) (fun _ _ => ?_))
    | (with_reducible refine o5_vR hE (by decide) (by assumption) (fun _ _ => ?_))
    | (with_reducible refine o5_dI hE (by decide) (by assumption) (fun _ _ => ?_))
    | (with_reducible refine o5_dV hE (by decide) (by assumption) (fun _ _ => ?_))
    | (with_reducible refine o5_dR hE (by decide) (by assumption) (fun _ _ => ?_))
    | (with_reducible refine o5_nV hE (by decide) (by assumption) (fun _ _ => ?_))
    | (with_reducible refine o5_rd (fun _ => ?_)))
theorem n5_21_0 (hE : fE5 D) (i0 : Int32) (i1 : Int32) (h : rm_H) (z : nF5 Hz h) : oK5 Hz (b21_0 L xs zf D w i0 i1 h) := by
  unfold b21_0
  repeat' (first
    | with_reducible exact o5_dr (by assumption)
    | with_reducible exact o5_so (by assumption)
    | exact o5_none
    | with_reducible exact n5_21_10 hE _ _ (by assumption)
    | with_reducible refine o5_if ?_ ?_
    | (with_reducible refine o5_pF (by decide) (by assumption) (fun _ _ => ?_))
    | (with_reducible refine o5_sI (by assumption) (fun _ _ => ?_))
    | (with_reducible refine o5_sB (by assumption) (fun _ _ => ?_))
    | (with_reducible refine o5_sR (by assumption) (fun _ _ => ?_))
    | (with_reducible refine o5_nI (by assumption) (fun _ _ => ?_))
    | (with_reducible refine o5_cp (by assumption) (fun _ _ => ?_))
    | (with_reducible refine o5_cl (by assumption) (fun _ _ => ?_))
    | (with_reducible refine o5_ap (by decide) (by assumption) (fun _ _ => ?_))
    | (with_reducible refine o5_vI hE (by decide) (by assumption) (fun _ _ => ?_))
    | (with_reducible refine o5_vV hE (by decide) (by assumption) (fun _ _ => ?_))
    | (with_reducible refine o5_vR hE (by decide) (by assumption) (fun _ _ => ?_))
    | (with_reducible refine o5_dI hE (by decide) (by assumption) (fun _ _ => ?_))
    | (with_reducible refine o5_dV hE (by decide) (by assumption) (fun _ _ => ?_))
    | (with_reducible refine o5_dR hE (by decide) (by assumption) (fun _ _ => ?_))
    | (with_reducible refine o5_nV hE (by decide) (by assumption) (fun _ _ => ?_))
    | (with_reducible refine o5_rd (fun _ => ?_)))
theorem n5_22_18 (hE : fE5 D) (s0 : Int32) (h : rm_H) (z : nF5 Hz h) : oK5 Hz (b22_18 L xs zf D w s0 h) := by
  unfold b22_18
  repeat' (first
    | with_reducible exact o5_dr (by assumption)
    | with_reducible exact o5_so (by assumption)
    | exact o5_none
    | with_reducible refine o5_if ?_ ?_
    | (with_reducible refine o5_pF (by decide) (by assumption) (fun _ _ => ?_))
    | (with_reducible refine o5_sI (by assumption) (fun _ _ => ?_))
    | (with_reducible refine o5_sB (by assumption) (fun _ _ => ?_))
    | (with_reducible refine o5_sR (by assumption) (fun _ _ => ?_))
    | (with_reducible refine o5_nI (by assumption) (fun _ _ => ?_))
    | (with_reducible refine o5_cp (by assumption) (fun _ _ => ?_))
    | (with_reducible refine o5_cl (by assumption) (fun _ _ => ?_))
    | (with_reducible refine o5_ap (by decide) (by assumption) (fun _ _ => ?_))
    | (with_reducible refine o5_vI hE (by decide) (by assumption) (fun _ _ => ?_))
    | (with_reducible refine o5_vV hE (by decide) (by assumption) (fun _ _ => ?_))
    | (with_reducible refine o5_vR hE (by decide) (by assumption) (fun _ _ => ?_))
    | (with_reducible refine o5_dI hE (by decide) (by assumption) (fun _ _ => ?_))
    | (with_reducible refine o5_dV hE (by decide) (by assumption) (fun _ _ => ?_))
    | (with_reducible refine o5_dR hE (by decide) (by assumption) (fun _ _ => ?_))
    | (with_reducible refine o5_nV hE (by decide) (by assumption) (fun _ _ => ?_))
    | (with_reducible refine o5_rd (fun _ => ?_)))
end N5B
