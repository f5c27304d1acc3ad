/-! blocks -/
section N8B
variable {L : Nat} {xs : Nat → Int32} {zf : Value} {D : dD} {w : Nat} {Hz : rm_H}
theorem n8_15_38 (hE : fE8 D) (h : rm_H) (z : nF5 Hz h) : oK5 Hz (b15_38 L xs zf D w h) := by
  unfold b15_38
  repeat' (first
    | with_reducible exact o5_dr (by assumption)
    | with_reducible exact o5_so (by assumption)
    | exact o5_none
    | with_reducible refine o5_if ?_ ?_
    | (with_reducible refine o5_pF (by decide) (by assumption) (fun _ _ => ?_))
    | (with_reducible refine o5_sI (by assumption) (fun _ _ => ?_))
    | (with_reducible refine o5_sB (by assumption) (fun _ _ => ?_))
    | (with_reducible refine o5_sR (by assumption) (fun _ _ => ?_))
    | (with_reducible refine o8_nR (by assumption) (fun _ _ => ?_))
    | (with_reducible refine o5_nI (by assumption) (fun _ _ => ?_))
    | (with_reducible refine o5_cp (by assumption) (fun _ _ => ?_))
    | (with_reducible refine o5_cl (by assumption) (fun _ _ => ?_))
    | (with_reducible refine o5_ap (by decide) (by assumption) (fun _ _ => ?_))
    | (with_reducible refine o8_vI hE (by decide) (by assumption) (fun _ _ => ?_))
    | (with_reducible refine o8_vV hE (by decide) (by assumption) (fun _ _ => ?_))
    | (with_reducible refine o8_vR hE (by decide) (by assumption) (fun _ _ => ?_))
    | (with_reducible refine o8_dI hE (by decide) (by assumption) (fun _ _ => ?_))
    | (with_reducible refine o8_dV hE (by decide) (by assumption) (fun _ _ => ?_))
    | (with_reducible refine o8_dR hE (by decide) (by assumption) (fun _ _ => ?_))
    | (with_reducible refine o8_nV hE (by decide) (by assumption) (fun _ _ => ?_))
    | (with_reducible refine o5_rd (fun _ => ?_)))
theorem n8_15_0 (hE : fE8 D) (o0 : Option Nat) (i1 : Int32) (h : rm_H) (z : nF5 Hz h) : oK5 Hz (b15_0 L xs zf D w o0 i1 h) := by
  unfold b15_0
  repeat' (first
    | with_reducible exact o5_dr (by assumption)
    | with_reducible exact o5_so (by assumption)
    | exact o5_none
    | with_reducible exact n8_15_38 hE _ (by assumption)
    | with_reducible refine o5_if ?_ ?_
    | (with_reducible refine o5_pF (by decide) (by assumption) (fun _ _ => ?_))
    | (with_reducible refine o5_sI (by assumption) (fun _ _ => ?_))
    | (with_reducible refine o5_sB (by assumption) (fun _ _ => ?_))
    | (with_reducible refine o5_sR (by assumption) (fun _ _ => ?_))
    | (with_reducible refine o8_nR (by assumption) (fun _ _ => ?_))
    | (with_reducible refine o5_nI (by assumption) (fun _ _ => ?_))
    | (with_reducible refine o5_cp (by assumption) (fun _ _ => ?_))
    | (with_reducible refine o5_cl (by assumption) (fun _ _ => ?_))
    | (with_reducible refine o5_ap (by decide) (by assumption) (fun _ _ => ?_))
    | (with_reducible refine o8_vI hE (by decide) (by assumption) (fun _ _ => ?_))
    | (with_reducible refine o8_vV hE (by decide) (by assumption) (fun _ _ => ?_))
    | (with_reducible refine o8_vR hE (by decide) (by assumption) (fun _ _ => ?_))
    | (with_reducible refine o8_dI hE (by decide) (by assumption) (fun _ _ => ?_))
    | (with_reducible refine o8_dV hE (by decide) (by assumption) (fun _ _ => ?_))
    | (with_reducible refine o8_dR hE (by decide) (by assumption) (fun _ _ => ?_))
    | (with_reducible refine o8_nV hE (by decide) (by assumption) (fun _ _ => ?_))
    | (with_reducible refine o5_rd (fun _ => ?_)))
theorem n8_16_0 (hE : fE8 D) (o0 : Option Nat) (i1 : Int32) (h : rm_H) (z : nF5 Hz h) : oK5 Hz (b16_0 L xs zf D w o0 i1 h) := by
  unfold b16_0
  repeat' (first
    | with_reducible exact o5_dr (by assumption)
    | with_reducible exact o5_so (by assumption)
    | exact o5_none
    | with_reducible refine o5_if ?_ ?_
    | (with_reducible refine o5_pF (by decide) (by assumption) (fun _ _ => ?_))
    | (with_reducible refine o5_sI (by assumption) (fun _ _ => ?_))
    | (with_reducible refine o5_sB (by assumption) (fun _ _ => ?_))
    | (with_reducible refine o5_sR (by assumption) (fun _ _ => ?_))
    | (with_reducible refine o8_nR (by assumption) (fun _ _ => ?_))
    | (with_reducible refine o5_nI (by assumption) (fun _ _ => ?_))
    | (with_reducible refine o5_cp (by assumption) (fun _ _ => ?_))
    | (with_reducible refine o5_cl (by assumption) (fun _ _ => ?_))
    | (with_reducible refine o5_ap (by decide) (by assumption) (fun _ _ => ?_))
    | (with_reducible refine o8_vI hE (by decide) (by assumption) (fun _ _ => ?_))
    | (with_reducible refine o8_vV hE (by decide) (by assumption) (fun _ _ => ?_))
    | (with_reducible refine o8_vR hE (by decide) (by assumption) (fun _ _ => ?_))
    | (with_reducible refine o8_dI hE (by decide) (by assumption) (fun _ _ => ?_))
    | (with_reducible refine o8_dV hE (by decide) (by assumption) (fun _ _ => ?_))
    | (with_reducible refine o8_dR hE (by decide) (by assumption) (fun _ _ => ?_))
    | (with_reducible refine o8_nV hE (by decide) (by assumption) (fun _ _ => ?_))
    | (with_reducible refine o5_rd (fun _ => ?_)))
theorem n8_17_21 (hE : fE8 D) (i0 : Int32) (i1 : Int32) (h : rm_H) (z : nF5 Hz h) : oK5 Hz (b17_21 L xs zf D w i0 i1 h) := by
  unfold b17_21
  repeat' (first
    | with_reducible exact o5_dr (by assumption)
    | with_reducible exact o5_so (by assumption)
    | exact o5_none
    | with_reducible refine o5_if ?_ ?_
    | (with_reducible refine o5_pF (by decide) (by assumption) (fun _ _ => ?_))
    | (with_reducible refine o5_sI (by assumption) (fun _ _ => ?_))
    | (with_reducible refine o5_sB (by assumption) (fun _ _ => ?_))
    | (with_reducible refine o5_sR (by assumption) (fun _ _ => ?_))
    | (with_reducible refine o8_nR (by assumption) (fun _ _ => ?_))
    | (with_reducible refine o5_nI (by assumption) (fun _ _ => ?_))
    | (with_reducible refine o5_cp (by assumption) (fun _ _ => ?_))
    | (with_reducible refine o5_cl (by assumption) (fun _ _ => ?_))
    | (with_reducible refine o5_ap (by decide) (by assumption) (fun _ _ => ?_))
    | (with_reducible refine o8_vI hE (by decide) (by assumption) (fun _ _ => ?_))
    | (with_reducible refine o8_vV hE (by decide) (by assumption) (fun _ _ => ?_))
    | (with_reducible refine o8_vR hE (by decide) (by assumption) (fun _ _ => ?_))
    | (with_reducible refine o8_dI hE (by decide) (by assumption) (fun _ _ => ?_))
    | (with_reducible refine o8_dV hE (by decide) (by assumption) (fun _ _ => ?_))
    | (with_reducible refine o8_dR hE (by decide) (by assumption) (fun _ _ => ?_))
    | (with_reducible refine o8_nV hE (by decide) (by assumption) (fun _ _ => ?_))
    | (with_reducible refine o5_rd (fun _ => ?_)))
theorem n8_17_0 (hE : fE8 D) (i0 : Int32) (i1 : Int32) (i2 : Int32) (h : rm_H) (z : nF5 Hz h) : oK5 Hz (b17_0 L xs zf D w i0 i1 i2 h) := by
  unfold b17_0
  repeat' (first
    | with_reducible exact o5_dr (by assumption)
    | with_reducible exact o5_so (by assumption)
    | exact o5_none
    | with_reducible exact n8_17_21 hE _ _ _ (by assumption)
    | with_reducible refine o5_if ?_ ?_
    | (with_reducible refine o5_pF (by decide) (by assumption) (fun _ _ => ?_))
    | (with_reducible refine o5_sI (by assumption) (fun _ _ => ?_))
    | (with_reducible refine o5_sB (by assumption) (fun _ _ => ?_))
    | (with_reducible refine o5_sR (by assumption) (fun _ _ => ?_))
    | (with_reducible refine o8_nR (by assumption) (fun _ _ => ?_))
    | (with_reducible refine o5_nI (by assumption) (fun _ _ => ?_))
    | (with_reducible refine o5_cp (by assumption) (fun _ _ => ?_))
    | (with_reducible refine o5_cl (by assumption) (fun _ _ => ?_))
    | (with_reducible refine o5_ap (by decide) (by assumption) (fun _ _ => ?_))
    | (with_reducible refine o8_vI hE (by decide) (by assumption) (fun _ _ => ?_))
    | (with_reducible refine o8_vV hE (by decide) (by assumption) (fun _ _ => ?_))
    | (with_reducible refine o8_vR hE (by decide) (by assumption) (fun _ _ => ?_))
    | (with_reducible refine o8_dI hE (by decide) (by assumption) (fun _ _ => ?_))
    | (with_reducible refine o8_dV hE (by decide) (by assumption) (fun _ _ => ?_))
    | (with_reducible refine o8_dR hE (by decide) (by assumption) (fun _ _ => ?_))
    | (with_reducible refine o8_nV hE (by decide) (by assumption) (fun _ _ => ?_))
    | (with_reducible refine o5_rd (fun _ => ?_)))
theorem n8_18_10 (hE : fE8 D) (s0 : Int32) (h : rm_H) (z : nF5 Hz h) : oK5 Hz (b18_10 L xs zf D w s0 h) := by
  unfold b18_10
  repeat' (first
    | with_reducible exact o5_dr (by assumption)
    | with_reducible exact o5_so (by assumption)
    | exact o5_none
    | with_reducible refine o5_if ?_ ?_
    | (with_reducible refine o5_pF (by decide) (by assumption) (fun _ _ => ?_))
    | (with_reducible refine o5_sI (by assumption) (fun _ _ => ?_))
    | (with_reducible refine o5_sB (by assumption) (fun _ _ => ?_))
    | (with_reducible refine o5_sR (by assumption) (fun _ _ => ?_))
    | (with_reducible refine o8_nR (by assumption) (fun _ _ => ?_))
    | (with_reducible refine o5_nI (by assumption) (fun _ _ => ?_))
    | (with_reducible refine o5_cp (by assumption) (fun _ _ => ?_))
    | (with_reducible refine o5_cl (by assumption) (fun _ _ => ?_))
    | (with_reducible refine o5_ap (by decide) (by assumption) (fun _ _ => ?_))
    | (with_reducible refine o8_vI hE (by decide) (by assumption) (fun _ _ => ?_))
    | (with_reducible refine o8_vV hE (by decide) (by assumption) (fun _ _ => ?_))
    | (with_reducible refine o8_vR hE (by decide) (by assumption) (fun _ _ => ?_))
    | (with_reducible refine o8_dI hE (by decide) (by assumption) (fun _ _ => ?_))
    | (with_reducible refine o8_dV hE (by decide) (by assumption) (fun _ _ => ?_))
    | (with_reducible refine o8_dR hE (by decide) (by assumption) (fun _ _ => ?_))
    | (with_reducible refine o8_nV hE (by decide) (by assumption) (fun _ _ => ?_))
    | (with_reducible refine o5_rd (fun _ => ?_)))
theorem n8_18_0 (hE : fE8 D) (i0 : Int32) (i1 : Int32) (h : rm_H) (z : nF5 Hz h) : oK5 Hz (b18_0 L xs zf D w i0 i1 h) := by
  unfold b18_0
  repeat' (first
    | with_reducible exact o5_dr (by assumption)
    | with_reducible exact o5_so (by assumption)
    | exact o5_none
    | with_reducible exact n8_18_10 hE _ _ (by assumption)
    | with_reducible refine o5_if ?_ ?_
    | (with_reducible refine o5_pF (by decide) (by assumption) (fun _ _ => ?_))
    | (with_reducible refine o5_sI (by assumption) (fun _ _ => ?_))
    | (with_reducible refine o5_sB (by assumption) (fun _ _ => ?_))
    | (with_reducible refine o5_sR (by assumption) (fun _ _ => ?_))
    | (with_reducible refine o8_nR (by assumption) (fun _ _ => ?_))
    | (with_reducible refine o5_nI (by assumption) (fun _ _ => ?_))
    | (with_reducible refine o5_cp (by assumption) (fun _ _ => ?_))
    | (with_reducible refine o5_cl (by assumption) (fun _ _ => ?_))
    | (with_reducible refine o5_ap (by decide) (by assumption) (fun _ _ => ?_))
    | (with_reducible refine o8_vI hE (by decide) (by assumption) (fun _ _ => ?_))
    | (with_reducible refine o8_vV hE (by decide) (by assumption) (fun _ _ => ?_))
    | (with_reducible refine o8_vR hE (by decide) (by assumption) (fun _ _ => ?_))
    | (with_reducible refine o8_dI hE (by decide) (by assumption) (fun _ _ => ?_))
    | (with_reducible refine o8_dV hE (by decide) (by assumption) (fun _ _ => ?_))
    | (with_reducible refine o8_dR hE (by decide) (by assumption) (fun _ _ => ?_))
    | (with_reducible refine o8_nV hE (by decide) (by assumption) (fun _ _ => ?_))
    | (with_reducible refine o5_rd (fun _ => ?_)))
theorem n8_19_0 (hE : fE8 D) (i0 : Int32) (i1 : Int32) (h : rm_H) (z : nF5 Hz h) : oK5 Hz (b19_0 L xs zf D w i0 i1 h) := by
  unfold b19_0
  repeat' (first
    | with_reducible exact o5_dr (by assumption)
    | with_reducible exact o5_so (by assumption)
    | exact o5_none
    | with_reducible refine o5_if ?_ ?_
    | (with_reducible refine o5_pF (by decide) (by assumption) (fun _ _ => ?_))
    | (with_reducible refine o5_sI (by assumption) (fun _ _ => ?_))
    | (with_reducible refine o5_sB (by assumption) (fun _ _ => ?_))
    | (with_reducible refine o5_sR (by assumption) (fun _ _ => ?_))
    | (with_reducible refine o8_nR (by assumption) (fun _ _ => ?_))
    | (with_reducible refine o5_nI (by assumption) (fun _ _ => ?_))
    | (with_reducible refine o5_cp (by assumption) (fun _ _ => ?_))
    | (with_reducible refine o5_cl (by assumption) (fun _ _ => ?_))
    | (with_reducible refine o5_ap (by decide) (by assumption) (fun _ _ => ?_))
    | (with_reducible refine o8_vI hE (by decide) (by assumption) (fun _ _ => ?_))
    | (with_reducible refine o8_vV hE (by decide) (by assumption) (fun _ _ => ?_))
    | (with_reducible refine o8_vR hE (by decide) (by assumption) (fun _ _ => ?_))
    | (with_reducible refine o8_dI hE (by decide) (by assumption) (fun _ _ => ?_))
    | (with_reducible refine o8_dV hE (by decide) (by assumption) (fun _ _ => ?_))
    | (with_reducible refine o8_dR hE (by decide) (by assumption) (fun _ _ => ?_))
    | (with_reducible refine o8_nV hE (by decide) (by assumption) (fun _ _ => ?_))
    | (with_reducible refine o5_rd (fun _ => ?_)))
theorem n8_20_0 (hE : fE8 D) (o0 : Option Nat) (i1 : Int32) (h : rm_H) (z : nF5 Hz h) : oK5 Hz (b20_0 L xs zf D w o0 i1 h) := by
  unfold b20_0
  repeat' (first
    | with_reducible exact o5_dr (by assumption)
    | with_reducible exact o5_so (by assumption)
    | exact o5_none
    | with_reducible refine o5_if ?_ ?_
    | (with_reducible refine o5_pF (by decide) (by assumption) (fun _ _ => ?_))
    | (with_reducible refine o5_sI (by assumption) (fun _ _ => ?_))
    | (with_reducible refine o5_sB (by assumption) (fun _ _ => ?_))
    | (with_reducible refine o5_sR (by assumption) (fun _ _ => ?_))
    | (with_reducible refine o8_nR (by assumption) (fun _ _ => ?_))
    | (with_reducible refine o5_nI (by assumption) (fun _ _ => ?_))
    | (with_reducible refine o5_cp (by assumption) (fun _ _ => ?_))
    | (with_reducible refine o5_cl (by assumption) (fun _ _ => ?_))
    | (with_reducible refine o5_ap (by decide) (by assumption) (fun _ _ => ?_))
    | (with_reducible refine o8_vI hE (by decide) (by assumption) (fun _ _ => ?_))
    | (with_reducible refine o8_vV hE (by decide) (by assumption) (fun _ _ => ?_))
    | (with_reducible refine o8_vR hE (by decide) (by assumption) (fun _ _ => ?_))
    | (with_reducible refine o8_dI hE (by decide) (by assumption) (fun _ _ => ?_))
    | (with_reducible refine o8_dV hE (by decide) (by assumption) (fun _ _ => ?_))
    | (with_reducible refine o8_dR hE (by decide) (by assumption) (fun _ _ => ?_))
    | (with_reducible refine o8_nV hE (by decide) (by assumption) (fun _ _ => ?_))
    | (with_reducible refine o5_rd (fun _ => ?_)))
theorem n8_21_10 (hE : fE8 D) (s0 : Int32) (h : rm_H) (z : nF5 Hz h) : oK5 Hz (b21_10 L xs zf D w s0 h) := by
  unfold b21_10
  repeat' (first
    | with_reducible exact o5_dr (by assumption)
    | with_reducible exact o5_so (by assumption)
    | exact o5_none
    | with_reducible refine o5_if ?_ ?_
    | (with_reducible refine o5_pF (by decide) (by assumption) (fun _ _ => ?_))
    | (with_reducible refine o5_sI (by assumption) (fun _ _ => ?_))
    | (with_reducible refine o5_sB (by assumption) (fun _ _ => ?_))
    | (with_reducible refine o5_sR (by assumption) (fun _ _ => ?_))
    | (with_reducible refine o8_nR (by assumption) (fun _ _ => ?_))
    | (with_reducible refine o5_nI (by assumption) (fun _ _ => ?_))
    | (with_reducible refine o5_cp (by assumption) (fun _ _ => ?_))
    | (with_reducible refine o5_cl (by assumption) (fun _ _ => ?_))
    | (with_reducible refine o5_ap (by decide) (by assumption) (fun _ _ => ?_))
    | (with_reducible refine o8_vI hE (by decide) (by assumption) (fun _ _ => ?_))
    | (with_reducible refine o8_vV hE (by decide) (by assumption) (fun _ _ => ?_))
    | (with_reducible refine o8_vR hE (by decide) (by assumption) (fun _ _ => ?_))
    | (with_reducible refine o8_dI hE (by decide) (by assumption) (fun _ _ => ?_))
    | (with_reducible refine o8_dV hE (by decide) (by assumption) (fun _ _ => ?_))
    | (with_reducible refine o8_dR hE (by decide) (by assumption) (fun _ _ => ?_))
    | (with_reducible refine o8_nV hE (by decide) (by assumption) (fun _ _ => ?_))
    | (with_reducible refine o5_rd (fun _ => ?_)))
theorem n8_21_0 (hE : fE8 D) (i0 : Int32) (i1 : Int32) (h : rm_H) (z : nF5 Hz h) : oK5 Hz (b21_0 L xs zf D w i0 i1 h) := by
  unfold b21_0
  repeat' (first
    | with_reducible exact o5_dr (by assumption)
    | with_reducible exact o5_so (by assumption)
    | exact o5_none
    | with_reducible exact n8_21_10 hE _ _ (by assumption)
    | with_reducible refine o5_if ?_ ?_
    | (with_reducible refine o5_pF (by decide) (by assumption) (fun _ _ => ?_))
    | (with_reducible refine o5_sI (by assumption) (fun _ _ => ?_))
    | (with_reducible refine o5_sB (by assumption) (fun _ _ => ?_))
    | (with_reducible refine o5_sR (by assumption) (fun _ _ => ?_))
    | (with_reducible refine o8_nR (by assumption) (fun _ _ => ?_))
    | (with_reducible refine o5_nI (by assumption) (fun _ _ => ?_))
    | (with_reducible refine o5_cp (by assumption) (fun _ _ => ?_))
    | (with_reducible refine o5_cl (by assumption) (fun _ _ => ?_))
    | (with_reducible refine o5_ap (by decide) (by assumption) (fun _ _ => ?_))
    | (with_reducible refine o8_vI hE (by decide) (by assumption) (fun _ _ => ?_))
    | (with_reducible refine o8_vV hE (by decide) (by assumption) (fun _ _ => ?_))
    | (with_reducible refine o8_vR hE (by decide) (by assumption) (fun _ _ => ?_))
    | (with_reducible refine o8_dI hE (by decide) (by assumption) (fun _ _ => ?_))
    | (with_reducible refine o8_dV hE (by decide) (by assumption) (fun _ _ => ?_))
    | (with_reducible refine o8_dR hE (by decide) (by assumption) (fun _ _ => ?_))
    | (with_reducible refine o8_nV hE (by decide) (by assumption) (fun _ _ => ?_))
    | (with_reducible refine o5_rd (fun _ => ?_)))
theorem n8_22_18 (hE : fE8 D) (s0 : Int32) (h : rm_H) (z : nF5 Hz h) : oK5 Hz (b22_18 L xs zf D w s0 h) := by
  unfold b22_18
  repeat' (first
    | with_reducible exact o5_dr (by assumption)
    | with_reducible exact o5_so (by assumption)
    | exact o5_none
    | with_reducible refine o5_if ?_ ?_
    | (with_reducible refine o5_pF (by decide) (by assumption) (fun _ _ => ?_))
    | (with_reducible refine o5_sI (by assumption) (fun _ _ => ?_))
    | (with_reducible refine o5_sB (by assumption) (fun _ _ => ?_))
    | (with_reducible refine o5_sR (by assumption) (fun _ _ => ?_))
    | (with_reducible refine o8_nR (by assumption) (fun _ _ => ?_))
    | (with_reducible refine o5_nI (by assumption) (fun _ _ => ?_))
    | (with_reducible refine o5_cp (by assumption) (fun _ _ => ?_))
    | (with_reducible refine o5_cl (by assumption) (fun _ _ => ?_))
    | (with_reducible refine o5_ap (by decide) (by assumption) (fun _ _ => ?_))
    | (with_reducible refine o8_vI hE (by decide) (by assumption) (fun _ _ => ?_))
    | (with_reducible refine o8_vV hE (by decide) (by assumption) (fun _ _ => ?_))
    | (with_reducible refine o8_vR hE (by decide) (by assumption) (fun _ _ => ?_))
    | (with_reducible refine o8_dI hE (by decide) (by assumption) (fun _ _ => ?_))
    | (with_reducible refine o8_dV hE (by decide) (by assumption) (fun _ _ => ?_))
    | (with_reducible refine o8_dR hE (by decide) (by assumption) (fun _ _ => ?_))
    | (with_reducible refine o8_nV hE (by decide) (by assumption) (fun _ _ => ?_))
    | (with_reducible refine o5_rd (fun _ => ?_)))
theorem n8_22_17 (hE : fE8 D) (h : rm_H) (z : nF5 Hz h) : oK5 Hz (b22_17 L xs zf D w h) := by
  unfold b22_17
  repeat' (first
    | with_reducible exact o5_dr (by assumption)
    | with_reducible exact o5_so (by assumption)
    | exact o5_none
    | with_reducible exact n8_22_18 hE _ _ (by assumption)
    | with_reducible refine o5_if ?_ ?_
    | (with_reducible refine o5_pF (by decide) (by assumption) (fun _ _ => ?_))
    | (with_reducible refine o5_sI (by assumption) (fun _ _ => ?_))
    | (with_reducible refine o5_sB (by assumption) (fun _ _ => ?_))
    | (with_reducible refine o5_sR (by assumption) (fun _ _ => ?_))
    | (with_reducible refine o8_nR (by assumption) (fun _ _ => ?_))
    | (with_reducible refine o5_nI (by assumption) (fun _ _ => ?_))
    | (with_reducible refine o5_cp (by assumption) (fun _ _ => ?_))
    | (with_reducible refine o5_cl (by assumption) (fun _ _ => ?_))
    | (with_reducible refine o5_ap (by decide) (by assumption) (fun _ _ => ?_))
    | (with_reducible refine o8_vI hE (by decide) (by assumption) (fun _ _ => ?_))
    | (with_reducible refine o8_vV hE (by decide) (by assumption) (fun _ _ => ?_))
    | (with_reducible refine o8_vR hE (by decide) (by assumption) (fun _ _ => ?_))
    | (with_reducible refine o8_dI hE (by decide) (by assumption) (fun _ _ => ?_))
    | (with_reducible refine o8_dV hE (by decide) (by assumption) (fun _ _ => ?_))
    | (with_reducible refine o8_dR hE (by decide) (by assumption) (fun _ _ => ?_))
    | (with_reducible refine o8_nV hE (by decide) (by assumption) (fun _ _ => ?_))
    | (with_reducible refine o5_rd (fun _ => ?_)))
theorem n8_22_0 (hE : fE8 D) (o0 : Option Nat) (h : rm_H) (z : nF5 Hz h) : oK5 Hz (b22_0 L xs zf D w o0 h) := by
  unfold b22_0
  repeat' (first
    | with_reducible exact o5_dr (by assumption)
    | with_reducible exact o5_so (by assumption)
    | exact o5_none
    | with_reducible exact n8_22_17 hE _ (by assumption)
    | with_reducible exact n8_22_18 hE _ _ (by assumption)
    | with_reducible refine o5_if ?_ ?_
    | (with_reducible refine o5_pF (by decide) (by assumption) (fun _ _ => ?_))
    | (with_reducible refine o5_sI (by assumption) (fun _ _ => ?_))
    | (with_reducible refine o5_sB (by assumption) (fun _ _ => ?_))
    | (with_reducible refine o5_sR (by assumption) (fun _ _ => ?_))
    | (with_reducible refine o8_nR (by assumption) (fun _ _ => ?_))
    | (with_reducible refine o5_nI (by assumption) (fun _ _ => ?_))
    | (with_reducible refine o5_cp (by assumption) (fun _ _ => ?_))
    | (with_reducible refine o5_cl (by assumption) (fun _ _ => ?_))
    | (with_reducible refine o5_ap (by decide) (by assumption) (fun _ _ => ?_))
    | (with_reducible refine o8_vI hE (by decide) (by assumption) (fun _ _ => ?_))
    | (with_reducible refine o8_vV hE (by decide) (by assumption) (fun _ _ => ?_))
    | (with_reducible refine o8_vR hE (by decide) (by assumption) (fun _ _ => ?_))
    | (with_reducible refine o8_dI hE (by decide) (by assumption) (fun _ _ => ?_))
    | (with_reducible refine o8_dV hE (by decide) (by assumption) (fun _ _ => ?_))
    | (with_reducible refine o8_dR hE (by decide) (by assumption) (fun _ _ => ?_))
    | (with_reducible refine o8_nV hE (by decide) (by assumption) (fun _ _ => ?_))
    | (with_reducible refine o5_rd (fun _ => ?_)))
theorem n8_35_0 (hE : fE8 D) (i0 : Int32) (i1 : Int32) (h : rm_H) (z : nF5 Hz h) : oK5 Hz (b35_0 L xs zf D w i0 i1 h) := by
  unfold b35_0
  repeat' (first
    | with_reducible exact o5_dr (by assumption)
    | with_reducible exact o5_so (by assumption)
    | exact o5_none
    | with_reducible refine o5_if ?_ ?_
    | (with_reducible refine o5_pF (by decide) (by assumption) (fun _ _ => ?_))
    | (with_reducible refine o5_sI (by assumption) (fun _ _ => ?_))
    | (with_reducible refine o5_sB (by assumption) (fun _ _ => ?_))
    | (with_reducible refine o5_sR (by assumption) (fun _ _ => ?_))
    | (with_reducible refine o8_nR (by assumption) (fun _ _ => ?_))
    | (with_reducible refine o5_nI (by assumption) (fun _ _ => ?_))
    | (with_reducible refine o5_cp (by assumption) (fun _ _ => ?_))
    | (with_reducible refine o5_cl (by assumption) (fun _ _ => ?_))
    | (with_reducible refine o5_ap (by decide) (by assumption) (fun _ _ => ?_))
    | (with_reducible refine o8_vI hE (by decide) (by assumption) (fun _ _ => ?_))
    | (with_reducible refine o8_vV hE (by decide) (by assumption) (fun _ _ => ?_))
    | (with_reducible refine o8_vR hE (by decide) (by assumption) (fun _ _ => ?_))
    | (with_reducible refine o8_dI hE (by decide) (by assumption) (fun _ _ => ?_))
    | (with_reducible refine o8_dV hE (by decide) (by assumption) (fun _ _ => ?_))
    | (with_reducible refine o8_dR hE (by decide) (by assumption) (fun _ _ => ?_))
    | (with_reducible refine o8_nV hE (by decide) (by assumption) (fun _ _ => ?_))
    | (with_reducible refine o5_rd (fun _ => ?_)))
theorem n8_37_0 (hE : fE8 D) (o0 : Option Nat) (i1 : Int32) (h : rm_H) (z : nF5 Hz h) : oK5 Hz (b37_0 L xs zf D w o0 i1 h) := by
  unfold b37_0
  repeat' (first
    | with_reducible exact o5_dr (by assumption)
    | with_reducible exact o5_so (by assumption)
    | exact o5_none
    | with_reducible refine o5_if ?_ ?_
    | (with_reducible refine o5_pF (by decide) (by assumption) (fun _ _ => ?_))
    | (with_reducible refine o5_sI (by assumption) (fun _ _ => ?_))
    | (with_reducible refine o5_sB (by assumption) (fun _ _ => ?_))
    | (with_reducible refine o5_sR (by assumption) (fun _ _ => ?_))
    | (with_reducible refine o8_nR (by assumption) (fun _ _ => ?_))
    | (with_reducible refine o5_nI (by assumption) (fun _ _ => ?_))
    | (with_reducible refine o5_cp (by assumption) (fun _ _ => ?_))
    | (with_reducible refine o5_cl (by assumption) (fun _ _ => ?_))
    | (with_reducible refine o5_ap (by decide) (by assumption) (fun _ _ => ?_))
    | (with_reducible refine o8_vI hE (by decide) (by assumption) (fun _ _ => ?_))
    | (with_reducible refine o8_vV hE (by decide) (by assumption) (fun _ _ => ?_))
    | (with_reducible refine o8_vR hE (by decide) (by assumption) (fun _ _ => ?_))
    | (with_reducible refine o8_dI hE (by decide) (by assumption) (fun _ _ => ?_))
    | (with_reducible refine o8_dV hE (by decide) (by assumption) (fun _ _ => ?_))
    | (with_reducible refine o8_dR hE (by decide) (by assumption) (fun _ _ => ?_))
    | (with_reducible refine o8_nV hE (by decide) (by assumption) (fun _ _ => ?_))
    | (with_reducible refine o5_rd (fun _ => ?_)))
theorem n8_38_76 (hE : fE8 D) (o0 : Option Nat) (i1 : Int32) (h : rm_H) (z : nF5 Hz h) : oK5 Hz (b38_76 L xs zf D w o0 i1 h) := by
  unfold b38_76
  repeat' (first
    | with_reducible exact o5_dr (by assumption)
    | with_reducible exact o5_so (by assumption)
    | exact o5_none
    | with_reducible refine o5_if ?_ ?_
    | (with_reducible refine o5_pF (by decide) (by assumption) (fun _ _ => ?_))
    | (with_reducible refine o5_sI (by assumption) (fun _ _ => ?_))
    | (with_reducible refine o5_sB (by assumption) (fun _ _ => ?_))
    | (with_reducible refine o5_sR (by assumption) (fun _ _ => ?_))
    | (with_reducible refine o8_nR (by assumption) (fun _ _ => ?_))
    | (with_reducible refine o5_nI (by assumption) (fun _ _ => ?_))
    | (with_reducible refine o5_cp (by assumption) (fun _ _ => ?_))
    | (with_reducible refine o5_cl (by assumption) (fun _ _ => ?_))
    | (with_reducible refine o5_ap (by decide) (by assumption) (fun _ _ => ?_))
    | (with_reducible refine o8_vI hE (by decide) (by assumption) (fun _ _ => ?_))
    | (with_reducible refine o8_vV hE (by decide) (by assumption) (fun _ _ => ?_))
    | (with_reducible refine o8_vR hE (by decide) (by assumption) (fun _ _ => ?_))
    | (with_reducible refine o8_dI hE (by decide) (by assumption) (fun _ _ => ?_))
    | (with_reducible refine o8_dV hE (by decide) (by assumption) (fun _ _ => ?_))
    | (with_reducible refine o8_dR hE (by decide) (by assumption) (fun _ _ => ?_))
    | (with_reducible refine o8_nV hE (by decide) (by assumption) (fun _ _ => ?_))
    | (with_reducible refine o5_rd (fun _ => ?_)))
theorem n8_38_0 (hE : fE8 D) (o0 : Option Nat) (i1 : Int32) (h : rm_H) (z : nF5 Hz h) : oK5 Hz (b38_0 L xs zf D w o0 i1 h) := by
  unfold b38_0
  repeat' (first
    | with_reducible exact o5_dr (by assumption)
    | with_reducible exact o5_so (by assumption)
    | exact o5_none
    | with_reducible exact n8_38_76 hE _ _ _ (by assumption)
    | with_reducible refine o5_if ?_ ?_
    | (with_reducible refine o5_pF (by decide) (by assumption) (fun _ _ => ?_))
    | (with_reducible refine o5_sI (by assumption) (fun _ _ => ?_))
    | (with_reducible refine o5_sB (by assumption) (fun _ _ => ?_))
    | (with_reducible refine o5_sR (by assumption) (fun _ _ => ?_))
    | (with_reducible refine o8_nR (by assumption) (fun _ _ => ?_))
    | (with_reducible refine o5_nI (by assumption) (fun _ _ => ?_))
    | (with_reducible refine o5_cp (by assumption) (fun _ _ => ?_))
    | (with_reducible refine o5_cl (by assumption) (fun _ _ => ?_))
    | (with_reducible refine o5_ap (by decide) (by assumption) (fun _ _ => ?_))
    | (with_reducible refine o8_vI hE (by decide) (by assumption) (fun _ _ => ?_))
    | (with_reducible refine o8_vV hE (by decide) (by assumption) (fun _ _ => ?_))
    | (with_reducible refine o8_vR hE (by decide) (by assumption) (fun _ _ => ?_))
    | (with_reducible refine o8_dI hE (by decide) (by assumption) (fun _ _ => ?_))
    | (with_reducible refine o8_dV hE (by decide) (by assumption) (fun _ _ => ?_))
    | (with_reducible refine o8_dR hE (by decide) (by assumption) (fun _ _ => ?_))
    | (with_reducible refine o8_nV hE (by decide) (by assumption) (fun _ _ => ?_))
    | (with_reducible refine o5_rd (fun _ => ?_)))
theorem n8_39_0 (hE : fE8 D) (o0 : Option Nat) (i1 : Int32) (i2 : Int32) (h : rm_H) (z : nF5 Hz h) : oK5 Hz (b39_0 L xs zf D w o0 i1 i2 h) := by
  unfold b39_0
  repeat' (first
    | with_reducible exact o5_dr (by assumption)
    | with_reducible exact o5_so (by assumption)
    | exact o5_none
    | with_reducible refine o5_if ?_ ?_
    | (with_reducible refine o5_pF (by decide) (by assumption) (fun _ _ => ?_))
    | (with_reducible refine o5_sI (by assumption) (fun _ _ => ?_))
    | (with_reducible refine o5_sB (by assumption) (fun _ _ => ?_))
    | (with_reducible refine o5_sR (by assumption) (fun _ _ => ?_))
    | (with_reducible refine o8_nR (by assumption) (fun _ _ => ?_))
    | (with_reducible refine o5_nI (by assumption) (fun _ _ => ?_))
    | (with_reducible refine o5_cp (by assumption) (fun _ _ => ?_))
    | (with_reducible refine o5_cl (by assumption) (fun _ _ => ?_))
    | (with_reducible refine o5_ap (by decide) (by assumption) (fun _ _ => ?_))
    | (with_reducible refine o8_vI hE (by decide) (by assumption) (fun _ _ => ?_))
    | (with_reducible refine o8_vV hE (by decide) (by assumption) (fun _ _ => ?_))
    | (with_reducible refine o8_vR hE (by decide) (by assumption) (fun _ _ => ?_))
    | (with_reducible refine o8_dI hE (by decide) (by assumption) (fun _ _ => ?_))
    | (with_reducible refine o8_dV hE (by decide) (by assumption) (fun _ _ => ?_))
    | (with_reducible refine o8_dR hE (by decide) (by assumption) (fun _ _ => ?_))
    | (with_reducible refine o8_nV hE (by decide) (by assumption) (fun _ _ => ?_))
    | (with_reducible refine o5_rd (fun _ => ?_)))
theorem n8_40_10 (hE : fE8 D) : ∀ (n : Nat) (b0 : Option Nat) (b1 : Int32) (b2 : Int32) (b3 : Int32) (h : rm_H), nF5 Hz h → oK5 Hz (b40_10 L xs zf D w n b0 b1 b2 b3 h)
  | 0, _, _, _, _, _, _ => fun r s' e => by
    have e : (none : Option dR) = some (r, s') := e
    cases e
  | n + 1, b0, b1, b2, b3, h, z => by
    have ih := n8_40_10 hE n
    unfold b40_10
    repeat' (first
      | with_reducible exact o5_dr (by assumption)
      | with_reducible exact o5_so (by assumption)
      | exact o5_none
      | with_reducible exact ih _ _ _ _ _ (by assumption)
      | with_reducible refine o5_if ?_ ?_
      | (with_reducible refine o5_pF (by decide) (by assumption) (fun _ _ => ?_))
      | (with_reducible refine o5_sI (by assumption) (fun _ _ => ?_))
      | (with_reducible refine o5_sB (by assumption) (fun _ _ => ?_))
      | (with_reducible refine o5_sR (by assumption) (fun _ _ => ?_))
      | (with_reducible refine o8_nR (by assumption) (fun _ _ => ?_))
      | (with_reducible refine o5_nI (by assumption) (fun _ _ => ?_))
      | (with_reducible refine o5_cp (by assumption) (fun _ _ => ?_))
      | (with_reducible refine o5_cl (by assumption) (fun _ _ => ?_))
      | (with_reducible refine o5_ap (by decide) (by assumption) (fun _ _ => ?_))
      | (with_reducible refine o8_vI hE (by decide) (by assumption) (fun _ _ => ?_))
      | (with_reducible refine o8_vV hE (by decide) (by assumption) (fun _ _ => ?_))
      | (with_reducible refine o8_vR hE (by decide) (by assumption) (fun _ _ => ?_))
      | (with_reducible refine o8_dI hE (by decide) (by assumption) (fun _ _ => ?_))
      | (with_reducible refine o8_dV hE (by decide) (by assumption) (fun _ _ => ?_))
      | (with_reducible refine o8_dR hE (by decide) (by assumption) (fun _ _ => ?_))
      | (with_reducible refine o8_nV hE (by decide) (by assumption) (fun _ _ => ?_))
      | (with_reducible refine o5_rd (fun _ => ?_)))
theorem n8_40_0 (hE : fE8 D) (o0 : Option Nat) (i1 : Int32) (i2 : Int32) (i3 : Int32) (h : rm_H) (z : nF5 Hz h) : oK5 Hz (b40_0 L xs zf D w o0 i1 i2 i3 h) := by
  unfold b40_0
  repeat' (first
    | with_reducible exact o5_dr (by assumption)
    | with_reducible exact o5_so (by assumption)
    | exact o5_none
    | with_reducible exact n8_40_10 hE _ _ _ _ _ _ (by assumption)
    | with_reducible refine o5_if ?_ ?_
    | (with_reducible refine o5_pF (by decide) (by assumption) (fun _ _ => ?_))
    | (with_reducible refine o5_sI (by assumption) (fun _ _ => ?_))
    | (with_reducible refine o5_sB (by assumption) (fun _ _ => ?_))
    | (with_reducible refine o5_sR (by assumption) (fun _ _ => ?_))
    | (with_reducible refine o8_nR (by assumption) (fun _ _ => ?_))
    | (with_reducible refine o5_nI (by assumption) (fun _ _ => ?_))
    | (with_reducible refine o5_cp (by assumption) (fun _ _ => ?_))
    | (with_reducible refine o5_cl (by assumption) (fun _ _ => ?_))
    | (with_reducible refine o5_ap (by decide) (by assumption) (fun _ _ => ?_))
    | (with_reducible refine o8_vI hE (by decide) (by assumption) (fun _ _ => ?_))
    | (with_reducible refine o8_vV hE (by decide) (by assumption) (fun _ _ => ?_))
    | (with_reducible refine o8_vR hE (by decide) (by assumption) (fun _ _ => ?_))
    | (with_reducible refine o8_dI hE (by decide) (by assumption) (fun _ _ => ?_))
    | (with_reducible refine o8_dV hE (by decide) (by assumption) (fun _ _ => ?_))
    | (with_reducible refine o8_dR hE (by decide) (by assumption) (fun _ _ => ?_))
    | (with_reducible refine o8_nV hE (by decide) (by assumption) (fun _ _ => ?_))
    | (with_reducible refine o5_rd (fun _ => ?_)))
theorem n8_41_0 (hE : fE8 D) (i0 : Int32) (i1 : Int32) (i2 : Int32) (h : rm_H) (z : nF5 Hz h) : oK5 Hz (b41_0 L xs zf D w i0 i1 i2 h) := by
  unfold b41_0
  repeat' (first
    | with_reducible exact o5_dr (by assumption)
    | with_reducible exact o5_so (by assumption)
    | exact o5_none
    | with_reducible refine o5_if ?_ ?_
    | (with_reducible refine o5_pF (by decide) (by assumption) (fun _ _ => ?_))
    | (with_reducible refine o5_sI (by assumption) (fun _ _ => ?_))
    | (with_reducible refine o5_sB (by assumption) (fun _ _ => ?_))
    | (with_reducible refine o5_sR (by assumption) (fun _ _ => ?_))
    | (with_reducible refine o8_nR (by assumption) (fun _ _ => ?_))
    | (with_reducible refine o5_nI (by assumption) (fun _ _ => ?_))
    | (with_reducible refine o5_cp (by assumption) (fun _ _ => ?_))
    | (with_reducible refine o5_cl (by assumption) (fun _ _ => ?_))
    | (with_reducible refine o5_ap (by decide) (by assumption) (fun _ _ => ?_))
    | (with_reducible refine o8_vI hE (by decide) (by assumption) (fun _ _ => ?_))
    | (with_reducible refine o8_vV hE (by decide) (by assumption) (fun _ _ => ?_))
    | (with_reducible refine o8_vR hE (by decide) (by assumption) (fun _ _ => ?_))
    | (with_reducible refine o8_dI hE (by decide) (by assumption) (fun _ _ => ?_))
    | (with_reducible refine o8_dV hE (by decide) (by assumption) (fun _ _ => ?_))
    | (with_reducible refine o8_dR hE (by decide) (by assumption) (fun _ _ => ?_))
    | (with_reducible refine o8_nV hE (by decide) (by assumption) (fun _ _ => ?_))
    | (with_reducible refine o5_rd (fun _ => ?_)))
end N8B
