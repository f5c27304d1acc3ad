/-! blocks -/
section N8B
variable {L : Nat} {xs : Nat → Int32} {zf : Value} {D : dD} {w : Nat} {Hz : rm_H}
theorem n8_205_39 (hE : fE8 D) (h : rm_H) (z : nF5 Hz h) : oK5 Hz (b205_39 L xs zf D w h) := by
  unfold b205_39
  repeat' (first
    | with_reducible exact o5_dr (by assumption)
    | with_reducible exact o5_so (by assumption)
    | exact o5_none
    | with_reducible exact n8_205_40 hE _ _ (by assumption)
    | with_reducible refine o5_if ?_ ?_
    | (with_reducible refine o5_pF (by decide) (by assumption) (fun _ _ => ?_))
    | (with_reducible refine o5_sI (by assumption) (fun _ _ => ?_))
    | (with_reducible refine o5_sB (by assumption) (fun _ _ => ?_))
    | (with_reducible refine o5_sR (by assumption) (fun _ _ => ?_))
    | (with_reducible refine o8_nR (by assumption) (fun _ _ => ?_))
    | (with_reducible refine o5_nI (by assumption) (fun _ _ => ?_))
    | (with_reducible refine o5_cp (by assumption) (fun _ _ => ?_))
    | (with_reducible refine o5_cl (by assumption) (fun _ _ => ?_))
    | (with_reducible refine o5_ap (by decide) (by assumption) (fun _ _ => ?_))
    | (with_reducible refine o8_vI hE (by decide) (by assumption) (fun _ _ => ?_))
    | (with_reducible refine o8_vV hE (by decide) (by assumption) (fun _ _ => ?_))
    | (with_reducible refine o8_vR hE (by decide) (by assumption) (fun _ _ => ?_))
    | (with_reducible refine o8_dI hE (by decide) (by assumption) (fun _ _ => ?_))
    | (with_reducible refine o8_dV hE (by decide) (by assumption) (fun _ _ => ?_))
    | (with_reducible refine o8_dR hE (by decide) (by assumption) (fun _ _ => ?_))
    | (with_reducible refine o8_nV hE (by decide) (by assumption) (fun _ _ => ?_))
    | (with_reducible refine o5_rd (fun _ => ?_)))
theorem n8_205_80 (hE : fE8 D) (s0 : Int32) (h : rm_H) (z : nF5 Hz h) : oK5 Hz (b205_80 L xs zf D w s0 h) := by
  unfold b205_80
  repeat' (first
    | with_reducible exact o5_dr (by assumption)
    | with_reducible exact o5_so (by assumption)
    | exact o5_none
    | with_reducible refine o5_if ?_ ?_
    | (with_reducible refine o5_pF (by decide) (by assumption) (fun _ _ => ?_))
    | (with_reducible refine o5_sI (by assumption) (fun _ _ => ?_))
    | (with_reducible refine o5_sB (by assumption) (fun _ _ => ?_))
    | (with_reducible refine o5_sR (by assumption) (fun _ _ => ?_))
    | (with_reducible refine o8_nR (by assumption) (fun _ _ => ?_))
    | (with_reducible refine o5_nI (by assumption) (fun _ _ => ?_))
    | (with_reducible refine o5_cp (by assumption) (fun _ _ => ?_))
    | (with_reducible refine o5_cl (by assumption) (fun _ _ => ?_))
    | (with_reducible refine o5_ap (by decide) (by assumption) (fun _ _ => ?_))
    | (with_reducible refine o8_vI hE (by decide) (by assumption) (fun _ _ => ?_))
    | (with_reducible refine o8_vV hE (by decide) (by assumption) (fun _ _ => ?_))
    | (with_reducible refine o8_vR hE (by decide) (by assumption) (fun _ _ => ?_))
    | (with_reducible refine o8_dI hE (by decide) (by assumption) (fun _ _ => ?_))
    | (with_reducible refine o8_dV hE (by decide) (by assumption) (fun _ _ => ?_))
    | (with_reducible refine o8_dR hE (by decide) (by assumption) (fun _ _ => ?_))
    | (with_reducible refine o8_nV hE (by decide) (by assumption) (fun _ _ => ?_))
    | (with_reducible refine o5_rd (fun _ => ?_)))
theorem n8_205_79 (hE : fE8 D) (h : rm_H) (z : nF5 Hz h) : oK5 Hz (b205_79 L xs zf D w h) := by
  unfold b205_79
  repeat' (first
    | with_reducible exact o5_dr (by assumption)
    | with_reducible exact o5_so (by assumption)
    | exact o5_none
    | with_reducible exact n8_205_80 hE _ _ (by assumption)
    | with_reducible refine o5_if ?_ ?_
    | (with_reducible refine o5_pF (by decide) (by assumption) (fun _ _ => ?_))
    | (with_reducible refine o5_sI (by assumption) (fun _ _ => ?_))
    | (with_reducible refine o5_sB (by assumption) (fun _ _ => ?_))
    | (with_reducible refine o5_sR (by assumption) (fun _ _ => ?_))
    | (with_reducible refine o8_nR (by assumption) (fun _ _ => ?_))
    | (with_reducible refine o5_nI (by assumption) (fun _ _ => ?_))
    | (with_reducible refine o5_cp (by assumption) (fun _ _ => ?_))
    | (with_reducible refine o5_cl (by assumption) (fun _ _ => ?_))
    | (with_reducible refine o5_ap (by decide) (by assumption) (fun _ _ => ?_))
    | (with_reducible refine o8_vI hE (by decide) (by assumption) (fun _ _ => ?_))
    | (with_reducible refine o8_vV hE (by decide) (by assumption) (fun _ _ => ?_))
    | (with_reducible refine o8_vR hE (by decide) (by assumption) (fun _ _ => ?_))
    | (with_reducible refine o8_dI hE (by decide) (by assumption) (fun _ _ => ?_))
    | (with_reducible refine o8_dV hE (by decide) (by assumption) (fun _ _ => ?_))
    | (with_reducible refine o8_dR hE (by decide) (by assumption) (fun _ _ => ?_))
    | (with_reducible refine o8_nV hE (by decide) (by assumption) (fun _ _ => ?_))
    | (with_reducible refine o5_rd (fun _ => ?_)))
theorem n8_205_68 (hE : fE8 D) (o1 : Option Nat) (h : rm_H) (z : nF5 Hz h) : oK5 Hz (b205_68 L xs zf D w o1 h) := by
  unfold b205_68
  repeat' (first
    | with_reducible exact o5_dr (by assumption)
    | with_reducible exact o5_so (by assumption)
    | exact o5_none
    | with_reducible exact n8_205_79 hE _ (by assumption)
    | with_reducible exact n8_205_80 hE _ _ (by assumption)
    | with_reducible refine o5_if ?_ ?_
    | (with_reducible refine o5_pF (by decide) (by assumption) (fun _ _ => ?_))
    | (with_reducible refine o5_sI (by assumption) (fun _ _ => ?_))
    | (with_reducible refine o5_sB (by assumption) (fun _ _ => ?_))
    | (with_reducible refine o5_sR (by assumption) (fun _ _ => ?_))
    | (with_reducible refine o8_nR (by assumption) (fun _ _ => ?_))
    | (with_reducible refine o5_nI (by assumption) (fun _ _ => ?_))
    | (with_reducible refine o5_cp (by assumption) (fun _ _ => ?_))
    | (with_reducible refine o5_cl (by assumption) (fun _ _ => ?_))
    | (with_reducible refine o5_ap (by decide) (by assumption) (fun _ _ => ?_))
    | (with_reducible refine o8_vI hE (by decide) (by assumption) (fun _ _ => ?_))
    | (with_reducible refine o8_vV hE (by decide) (by assumption) (fun _ _ => ?_))
    | (with_reducible refine o8_vR hE (by decide) (by assumption) (fun _ _ => ?_))
    | (with_reducible refine o8_dI hE (by decide) (by assumption) (fun _ _ => ?_))
    | (with_reducible refine o8_dV hE (by decide) (by assumption) (fun _ _ => ?_))
    | (with_reducible refine o8_dR hE (by decide) (by assumption) (fun _ _ => ?_))
    | (with_reducible refine o8_nV hE (by decide) (by assumption) (fun _ _ => ?_))
    | (with_reducible refine o5_rd (fun _ => ?_)))
theorem n8_205_101 (hE : fE8 D) (s0 : Int32) (h : rm_H) (z : nF5 Hz h) : oK5 Hz (b205_101 L xs zf D w s0 h) := by
  unfold b205_101
  repeat' (first
    | with_reducible exact o5_dr (by assumption)
    | with_reducible exact o5_so (by assumption)
    | exact o5_none
    | with_reducible refine o5_if ?_ ?_
    | (with_reducible refine o5_pF (by decide) (by assumption) (fun _ _ => ?_))
    | (with_reducible refine o5_sI (by assumption) (fun _ _ => ?_))
    | (with_reducible refine o5_sB (by assumption) (fun _ _ => ?_))
    | (with_reducible refine o5_sR (by assumption) (fun _ _ => ?_))
    | (with_reducible refine o8_nR (by assumption) (fun _ _ => ?_))
    | (with_reducible refine o5_nI (by assumption) (fun _ _ => ?_))
    | (with_reducible refine o5_cp (by assumption) (fun _ _ => ?_))
    | (with_reducible refine o5_cl (by assumption) (fun _ _ => ?_))
    | (with_reducible refine o5_ap (by decide) (by assumption) (fun _ _ => ?_))
    | (with_reducible refine o8_vI hE (by decide) (by assumption) (fun _ _ => ?_))
    | (with_reducible refine o8_vV hE (by decide) (by assumption) (fun _ _ => ?_))
    | (with_reducible refine o8_vR hE (by decide) (by assumption) (fun _ _ => ?_))
    | (with_reducible refine o8_dI hE (by decide) (by assumption) (fun _ _ => ?_))
    | (with_reducible refine o8_dV hE (by decide) (by assumption) (fun _ _ => ?_))
    | (with_reducible refine o8_dR hE (by decide) (by assumption) (fun _ _ => ?_))
    | (with_reducible refine o8_nV hE (by decide) (by assumption) (fun _ _ => ?_))
    | (with_reducible refine o5_rd (fun _ => ?_)))
theorem n8_205_81 (hE : fE8 D) (o1 : Option Nat) (i3 : Int32) (h : rm_H) (z : nF5 Hz h) : oK5 Hz (b205_81 L xs zf D w o1 i3 h) := by
  unfold b205_81
  repeat' (first
    | with_reducible exact o5_dr (by assumption)
    | with_reducible exact o5_so (by assumption)
    | exact o5_none
    | with_reducible exact n8_205_101 hE _ _ (by assumption)
    | with_reducible refine o5_if ?_ ?_
    | (with_reducible refine o5_pF (by decide) (by assumption) (fun _ _ => ?_))
    | (with_reducible refine o5_sI (by assumption) (fun _ _ => ?_))
    | (with_reducible refine o5_sB (by assumption) (fun _ _ => ?_))
    | (with_reducible refine o5_sR (by assumption) (fun _ _ => ?_))
    | (with_reducible refine o8_nR (by assumption) (fun _ _ => ?_))
    | (with_reducible refine o5_nI (by assumption) (fun _ _ => ?_))
    | (with_reducible refine o5_cp (by assumption) (fun _ _ => ?_))
    | (with_reducible refine o5_cl (by assumption) (fun _ _ => ?_))
    | (with_reducible refine o5_ap (by decide) (by assumption) (fun _ _ => ?_))
    | (with_reducible refine o8_vI hE (by decide) (by assumption) (fun _ _ => ?_))
    | (with_reducible refine o8_vV hE (by decide) (by assumption) (fun _ _ => ?_))
    | (with_reducible refine o8_vR hE (by decide) (by assumption) (fun _ _ => ?_))
    | (with_reducible refine o8_dI hE (by decide) (by assumption) (fun _ _ => ?_))
    | (with_reducible refine o8_dV hE (by decide) (by assumption) (fun _ _ => ?_))
    | (with_reducible refine o8_dR hE (by decide) (by assumption) (fun _ _ => ?_))
    | (with_reducible refine o8_nV hE (by decide) (by assumption) (fun _ _ => ?_))
    | (with_reducible refine o5_rd (fun _ => ?_)))
theorem n8_205_41 (hE : fE8 D) (o1 : Option Nat) (o2 : Option Nat) (i3 : Int32) (h : rm_H) (z : nF5 Hz h) : oK5 Hz (b205_41 L xs zf D w o1 o2 i3 h) := by
  unfold b205_41
  repeat' (first
    | with_reducible exact o5_dr (by assumption)
    | with_reducible exact o5_so (by assumption)
    | exact o5_none
    | with_reducible exact n8_205_68 hE _ _ (by assumption)
    | with_reducible exact n8_205_79 hE _ (by assumption)
    | with_reducible exact n8_205_81 hE _ _ _ (by assumption)
    | with_reducible refine o5_if ?_ ?_
    | (with_reducible refine o5_pF (by decide) (by assumption) (fun _ _ => ?_))
    | (with_reducible refine o5_sI (by assumption) (fun _ _ => ?_))
    | (with_reducible refine o5_sB (by assumption) (fun _ _ => ?_))
    | (with_reducible refine o5_sR (by assumption) (fun _ _ => ?_))
    | (with_reducible refine o8_nR (by assumption) (fun _ _ => ?_))
    | (with_reducible refine o5_nI (by assumption) (fun _ _ => ?_))
    | (with_reducible refine o5_cp (by assumption) (fun _ _ => ?_))
    | (with_reducible refine o5_cl (by assumption) (fun _ _ => ?_))
    | (with_reducible refine o5_ap (by decide) (by assumption) (fun _ _ => ?_))
    | (with_reducible refine o8_vI hE (by decide) (by assumption) (fun _ _ => ?_))
    | (with_reducible refine o8_vV hE (by decide) (by assumption) (fun _ _ => ?_))
    | (with_reducible refine o8_vR hE (by decide) (by assumption) (fun _ _ => ?_))
    | (with_reducible refine o8_dI hE (by decide) (by assumption) (fun _ _ => ?_))
    | (with_reducible refine o8_dV hE (by decide) (by assumption) (fun _ _ => ?_))
    | (with_reducible refine o8_dR hE (by decide) (by assumption) (fun _ _ => ?_))
    | (with_reducible refine o8_nV hE (by decide) (by assumption) (fun _ _ => ?_))
    | (with_reducible refine o5_rd (fun _ => ?_)))
theorem n8_205_0 (hE : fE8 D) (o1 : Option Nat) (o2 : Option Nat) (i3 : Int32) (h : rm_H) (z : nF5 Hz h) : oK5 Hz (b205_0 L xs zf D w o1 o2 i3 h) := by
  unfold b205_0
  repeat' (first
    | with_reducible exact o5_dr (by assumption)
    | with_reducible exact o5_so (by assumption)
    | exact o5_none
    | with_reducible exact n8_205_35 hE _ (by assumption)
    | with_reducible exact n8_205_39 hE _ (by assumption)
    | with_reducible exact n8_205_41 hE _ _ _ _ (by assumption)
    | with_reducible refine o5_if ?_ ?_
    | (with_reducible refine o5_pF (by decide) (by assumption) (fun _ _ => ?_))
    | (with_reducible refine o5_sI (by assumption) (fun _ _ => ?_))
    | (with_reducible refine o5_sB (by assumption) (fun _ _ => ?_))
    | (with_reducible refine o5_sR (by assumption) (fun _ _ => ?_))
    | (with_reducible refine o8_nR (by assumption) (fun _ _ => ?_))
    | (with_reducible refine o5_nI (by assumption) (fun _ _ => ?_))
    | (with_reducible refine o5_cp (by assumption) (fun _ _ => ?_))
    | (with_reducible refine o5_cl (by assumption) (fun _ _ => ?_))
    | (with_reducible refine o5_ap (by decide) (by assumption) (fun _ _ => ?_))
    | (with_reducible refine o8_vI hE (by decide) (by assumption) (fun _ _ => ?_))
    | (with_reducible refine o8_vV hE (by decide) (by assumption) (fun _ _ => ?_))
    | (with_reducible refine o8_vR hE (by decide) (by assumption) (fun _ _ => ?_))
    | (with_reducible refine o8_dI hE (by decide) (by assumption) (fun _ _ => ?_))
    | (with_reducible refine o8_dV hE (by decide) (by assumption) (fun _ _ => ?_))
    | (with_reducible refine o8_dR hE (by decide) (by assumption) (fun _ _ => ?_))
    | (with_reducible refine o8_nV hE (by decide) (by assumption) (fun _ _ => ?_))
    | (with_reducible refine o5_rd (fun _ => ?_)))
theorem n8_206_30 (hE : fE8 D) (s0 : Int32) (h : rm_H) (z : nF5 Hz h) : oK5 Hz (b206_30 L xs zf D w s0 h) := by
  unfold b206_30
  repeat' (first
    | with_reducible exact o5_dr (by assumption)
    | with_reducible exact o5_so (by assumption)
    | exact o5_none
    | with_reducible refine o5_if ?_ ?_
    | (with_reducible refine o5_pF (by decide) (by assumption) (fun _ _ => ?_))
    | (with_reducible refine o5_sI (by assumption) (fun _ _ => ?_))
    | (with_reducible refine o5_sB (by assumption) (fun _ _ => ?_))
    | (with_reducible refine o5_sR (by assumption) (fun _ _ => ?_))
    | (with_reducible refine o8_nR (by assumption) (fun _ _ => ?_))
    | (with_reducible refine o5_nI (by assumption) (fun _ _ => ?_))
    | (with_reducible refine o5_cp (by assumption) (fun _ _ => ?_))
    | (with_reducible refine o5_cl (by assumption) (fun _ _ => ?_))
    | (with_reducible refine o5_ap (by decide) (by assumption) (fun _ _ => ?_))
    | (with_reducible refine o8_vI hE (by decide) (by assumption) (fun _ _ => ?_))
    | (with_reducible refine o8_vV hE (by decide) (by assumption) (fun _ _ => ?_))
    | (with_reducible refine o8_vR hE (by decide) (by assumption) (fun _ _ => ?_))
    | (with_reducible refine o8_dI hE (by decide) (by assumption) (fun _ _ => ?_))
    | (with_reducible refine o8_dV hE (by decide) (by assumption) (fun _ _ => ?_))
    | (with_reducible refine o8_dR hE (by decide) (by assumption) (fun _ _ => ?_))
    | (with_reducible refine o8_nV hE (by decide) (by assumption) (fun _ _ => ?_))
    | (with_reducible refine o5_rd (fun _ => ?_)))
theorem n8_206_25 (hE : fE8 D) (h : rm_H) (z : nF5 Hz h) : oK5 Hz (b206_25 L xs zf D w h) := by
  unfold b206_25
  repeat' (first
    | with_reducible exact o5_dr (by assumption)
    | with_reducible exact o5_so (by assumption)
    | exact o5_none
    | with_reducible exact n8_206_30 hE _ _ (by assumption)
    | with_reducible refine o5_if ?_ ?_
    | (with_reducible refine o5_pF (by decide) (by assumption) (fun _ _ => ?_))
    | (with_reducible refine o5_sI (by assumption) (fun _ _ => ?_))
    | (with_reducible refine o5_sB (by assumption) (fun _ _ => ?_))
    | (with_reducible refine o5_sR (by assumption) (fun _ _ => ?_))
    | (with_reducible refine o8_nR (by assumption) (fun _ _ => ?_))
    | (with_reducible refine o5_nI (by assumption) (fun _ _ => ?_))
    | (with_reducible refine o5_cp (by assumption) (fun _ _ => ?_))
    | (with_reducible refine o5_cl (by assumption) (fun _ _ => ?_))
    | (with_reducible refine o5_ap (by decide) (by assumption) (fun _ _ => ?_))
    | (with_reducible refine o8_vI hE (by decide) (by assumption) (fun _ _ => ?_))
    | (with_reducible refine o8_vV hE (by decide) (by assumption) (fun _ _ => ?_))
    | (with_reducible refine o8_vR hE (by decide) (by assumption) (fun _ _ => ?_))
    | (with_reducible refine o8_dI hE (by decide) (by assumption) (fun _ _ => ?_))
    | (with_reducible refine o8_dV hE (by decide) (by assumption) (fun _ _ => ?_))
    | (with_reducible refine o8_dR hE (by decide) (by assumption) (fun _ _ => ?_))
    | (with_reducible refine o8_nV hE (by decide) (by assumption) (fun _ _ => ?_))
    | (with_reducible refine o5_rd (fun _ => ?_)))
theorem n8_206_0 (hE : fE8 D) (o0 : Option Nat) (h : rm_H) (z : nF5 Hz h) : oK5 Hz (b206_0 L xs zf D w o0 h) := by
  unfold b206_0
  repeat' (first
    | with_reducible exact o5_dr (by assumption)
    | with_reducible exact o5_so (by assumption)
    | exact o5_none
    | with_reducible exact n8_206_25 hE _ (by assumption)
    | with_reducible exact n8_206_30 hE _ _ (by assumption)
    | with_reducible refine o5_if ?_ ?_
    | (with_reducible refine o5_pF (by decide) (by assumption) (fun _ _ => ?_))
    | (with_reducible refine o5_sI (by assumption) (fun _ _ => ?_))
    | (with_reducible refine o5_sB (by assumption) (fun _ _ => ?_))
    | (with_reducible refine o5_sR (by assumption) (fun _ _ => ?_))
    | (with_reducible refine o8_nR (by assumption) (fun _ _ => ?_))
    | (with_reducible refine o5_nI (by assumption) (fun _ _ => ?_))
    | (with_reducible refine o5_cp (by assumption) (fun _ _ => ?_))
    | (with_reducible refine o5_cl (by assumption) (fun _ _ => ?_))
    | (with_reducible refine o5_ap (by decide) (by assumption) (fun _ _ => ?_))
    | (with_reducible refine o8_vI hE (by decide) (by assumption) (fun _ _ => ?_))
    | (with_reducible refine o8_vV hE (by decide) (by assumption) (fun _ _ => ?_))
    | (with_reducible refine o8_vR hE (by decide) (by assumption) (fun _ _ => ?_))
    | (with_reducible refine o8_dI hE (by decide) (by assumption) (fun _ _ => ?_))
    | (with_reducible refine o8_dV hE (by decide) (by assumption) (fun _ _ => ?_))
    | (with_reducible refine o8_dR hE (by decide) (by assumption) (fun _ _ => ?_))
    | (with_reducible refine o8_nV hE (by decide) (by assumption) (fun _ _ => ?_))
    | (with_reducible refine o5_rd (fun _ => ?_)))
theorem n8_207_30 (hE : fE8 D) (o1 : Option Nat) (s0 : Int32) (s1 : Option Nat) (h : rm_H) (z : nF5 Hz h) : oK5 Hz (b207_30 L xs zf D w o1 s0 s1 h) := by
  unfold b207_30
  repeat' (first
    | with_reducible exact o5_dr (by assumption)
    | with_reducible exact o5_so (by assumption)
    | exact o5_none
    | with_reducible refine o5_if ?_ ?_
    | (with_reducible refine o5_pF (by decide) (by assumption) (fun _ _ => ?_))
    | (with_reducible refine o5_sI (by assumption) (fun _ _ => ?_))
    | (with_reducible refine o5_sB (by assumption) (fun _ _ => ?_))
    | (with_reducible refine o5_sR (by assumption) (fun _ _ => ?_))
    | (with_reducible refine o8_nR (by assumption) (fun _ _ => ?_))
    | (with_reducible refine o5_nI (by assumption) (fun _ _ => ?_))
    | (with_reducible refine o5_cp (by assumption) (fun _ _ => ?_))
    | (with_reducible refine o5_cl (by assumption) (fun _ _ => ?_))
    | (with_reducible refine o5_ap (by decide) (by assumption) (fun _ _ => ?_))
    | (with_reducible refine o8_vI hE (by decide) (by assumption) (fun _ _ => ?_))
    | (with_reducible refine o8_vV hE (by decide) (by assumption) (fun _ _ => ?_))
    | (with_reducible refine o8_vR hE (by decide) (by assumption) (fun _ _ => ?_))
    | (with_reducible refine o8_dI hE (by decide) (by assumption) (fun _ _ => ?_))
    | (with_reducible refine o8_dV hE (by decide) (by assumption) (fun _ _ => ?_))
    | (with_reducible refine o8_dR hE (by decide) (by assumption) (fun _ _ => ?_))
    | (with_reducible refine o8_nV hE (by decide) (by assumption) (fun _ _ => ?_))
    | (with_reducible refine o5_rd (fun _ => ?_)))
theorem n8_207_71 (hE : fE8 D) (o0 : Option Nat) (o1 : Option Nat) (s0 : Option Nat) (h : rm_H) (z : nF5 Hz h) : oK5 Hz (b207_71 L xs zf D w o0 o1 s0 h) := by
  unfold b207_71
  repeat' (first
    | with_reducible exact o5_dr (by assumption)
    | with_reducible exact o5_so (by assumption)
    | exact o5_none
    | with_reducible refine o5_if ?_ ?_
    | (with_reducible refine o5_pF (by decide) (by assumption) (fun _ _ => ?_))
    | (with_reducible refine o5_sI (by assumption) (fun _ _ => ?_))
    | (with_reducible refine o5_sB (by assumption) (fun _ _ => ?_))
    | (with_reducible refine o5_sR (by assumption) (fun _ _ => ?_))
    | (with_reducible refine o8_nR (by assumption) (fun _ _ => ?_))
    | (with_reducible refine o5_nI (by assumption) (fun _ _ => ?_))
    | (with_reducible refine o5_cp (by assumption) (fun _ _ => ?_))
    | (with_reducible refine o5_cl (by assumption) (fun _ _ => ?_))
    | (with_reducible refine o5_ap (by decide) (by assumption) (fun _ _ => ?_))
    | (with_reducible refine o8_vI hE (by decide) (by assumption) (fun _ _ => ?_))
    | (with_reducible refine o8_vV hE (by decide) (by assumption) (fun _ _ => ?_))
    | (with_reducible refine o8_vR hE (by decide) (by assumption) (fun _ _ => ?_))
    | (with_reducible refine o8_dI hE (by decide) (by assumption) (fun _ _ => ?_))
    | (with_reducible refine o8_dV hE (by decide) (by assumption) (fun _ _ => ?_))
    | (with_reducible refine o8_dR hE (by decide) (by assumption) (fun _ _ => ?_))
    | (with_reducible refine o8_nV hE (by decide) (by assumption) (fun _ _ => ?_))
    | (with_reducible refine o5_rd (fun _ => ?_)))
theorem n8_207_42 (hE : fE8 D) (o0 : Option Nat) (o1 : Option Nat) (i2 : Int32) (h : rm_H) (z : nF5 Hz h) : oK5 Hz (b207_42 L xs zf D w o0 o1 i2 h) := by
  unfold b207_42
  repeat' (first
    | with_reducible exact o5_dr (by assumption)
    | with_reducible exact o5_so (by assumption)
    | exact o5_none
    | with_reducible exact n8_207_71 hE _ _ _ _ (by assumption)
    | with_reducible refine o5_if ?_ ?_
    | (with_reducible refine o5_pF (by decide) (by assumption) (fun _ _ => ?_))
    | (with_reducible refine o5_sI (by assumption) (fun _ _ => ?_))
    | (with_reducible refine o5_sB (by assumption) (fun _ _ => ?_))
    | (with_reducible refine o5_sR (by assumption) (fun _ _ => ?_))
    | (with_reducible refine o8_nR (by assumption) (fun _ _ => ?_))
    | (with_reducible refine o5_nI (by assumption) (fun _ _ => ?_))
    | (with_reducible refine o5_cp (by assumption) (fun _ _ => ?_))
    | (with_reducible refine o5_cl (by assumption) (fun _ _ => ?_))
    | (with_reducible refine o5_ap (by decide) (by assumption) (fun _ _ => ?_))
    | (with_reducible refine o8_vI hE (by decide) (by assumption) (fun _ _ => ?_))
    | (with_reducible refine o8_vV hE (by decide) (by assumption) (fun _ _ => ?_))
    | (with_reducible refine o8_vR hE (by decide) (by assumption) (fun _ _ => ?_))
    | (with_reducible refine o8_dI hE (by decide) (by assumption) (fun _ _ => ?_))
    | (with_reducible refine o8_dV hE (by decide) (by assumption) (fun _ _ => ?_))
    | (with_reducible refine o8_dR hE (by decide) (by assumption) (fun _ _ => ?_))
    | (with_reducible refine o8_nV hE (by decide) (by assumption) (fun _ _ => ?_))
    | (with_reducible refine o5_rd (fun _ => ?_)))
theorem n8_207_0 (hE : fE8 D) (o0 : Option Nat) (o1 : Option Nat) (i2 : Int32) (h : rm_H) (z : nF5 Hz h) : oK5 Hz (b207_0 L xs zf D w o0 o1 i2 h) := by
  unfold b207_0
  repeat' (first
    | with_reducible exact o5_dr (by assumption)
    | with_reducible exact o5_so (by assumption)
    | exact o5_none
    | with_reducible exact n8_207_30 hE _ _ _ _ (by assumption)
    | with_reducible exact n8_207_42 hE _ _ _ _ (by assumption)
    | with_reducible refine o5_if ?_ ?_
    | (with_reducible refine o5_pF (by decide) (by assumption) (fun _ _ => ?_))
    | (with_reducible refine o5_sI (by assumption) (fun _ _ => ?_))
    | (with_reducible refine o5_sB (by assumption) (fun _ _ => ?_))
    | (with_reducible refine o5_sR (by assumption) (fun _ _ => ?_))
    | (with_reducible refine o8_nR (by assumption) (fun _ _ => ?_))
    | (with_reducible refine o5_nI (by assumption) (fun _ _ => ?_))
    | (with_reducible refine o5_cp (by assumption) (fun _ _ => ?_))
    | (with_reducible refine o5_cl (by assumption) (fun _ _ => ?_))
    | (with_reducible refine o5_ap (by decide) (by assumption) (fun _ _ => ?_))
    | (with_reducible refine o8_vI hE (by decide) (by assumption) (fun _ _ => ?_))
    | (with_reducible refine o8_vV hE (by decide) (by assumption) (fun _ _ => ?_))
    | (with_reducible refine o8_vR hE (by decide) (by assumption) (fun _ _ => ?_))
    | (with_reducible refine o8_dI hE (by decide) (by assumption) (fun _ _ => ?_))
    | (with_reducible refine o8_dV hE (by decide) (by assumption) (fun _ _ => ?_))
    | (with_reducible refine o8_dR hE (by decide) (by assumption) (fun _ _ => ?_))
    | (with_reducible refine o8_nV hE (by decide) (by assumption) (fun _ _ => ?_))
    | (with_reducible refine o5_rd (fun _ => ?_)))
theorem n8_208_0 (hE : fE8 D) (o0 : Option Nat) (o1 : Option Nat) (i2 : Int32) (h : rm_H) (z : nF5 Hz h) : oK5 Hz (b208_0 L xs zf D w o0 o1 i2 h) := by
  unfold b208_0
  repeat' (first
    | with_reducible exact o5_dr (by assumption)
    | with_reducible exact o5_so (by assumption)
    | exact o5_none
    | with_reducible refine o5_if ?_ ?_
    | (with_reducible refine o5_pF (by decide) (by assumption) (fun _ _ => ?_))
    | (with_reducible refine o5_sI (by assumption) (fun _ _ => ?_))
    | (with_reducible refine o5_sB (by assumption) (fun _ _ => ?_))
    | (with_reducible refine o5_sR (by assumption) (fun _ _ => ?_))
    | (with_reducible refine o8_nR (by assumption) (fun _ _ => ?_))
    | (with_reducible refine o5_nI (by assumption) (fun _ _ => ?_))
    | (with_reducible refine o5_cp (by assumption) (fun _ _ => ?_))
    | (with_reducible refine o5_cl (by assumption) (fun _ _ => ?_))
    | (with_reducible refine o5_ap (by decide) (by assumption) (fun _ _ => ?_))
    | (with_reducible refine o8_vI hE (by decide) (by assumption) (fun _ _ => ?_))
    | (with_reducible refine o8_vV hE (by decide) (by assumption) (fun _ _ => ?_))
    | (with_reducible refine o8_vR hE (by decide) (by assumption) (fun _ _ => ?_))
    | (with_reducible refine o8_dI hE (by decide) (by assumption) (fun _ _ => ?_))
    | (with_reducible refine o8_dV hE (by decide) (by assumption) (fun _ _ => ?_))
    | (with_reducible refine o8_dR hE (by decide) (by assumption) (fun _ _ => ?_))
    | (with_reducible refine o8_nV hE (by decide) (by assumption) (fun _ _ => ?_))
    | (with_reducible refine o5_rd (fun _ => ?_)))
theorem n8_209_29 (hE : fE8 D) (h : rm_H) (z : nF5 Hz h) : oK5 Hz (b209_29 L xs zf D w h) := by
  unfold b209_29
  repeat' (first
    | with_reducible exact o5_dr (by assumption)
    | with_reducible exact o5_so (by assumption)
    | exact o5_none
    | with_reducible refine o5_if ?_ ?_
    | (with_reducible refine o5_pF (by decide) (by assumption) (fun _ _ => ?_))
    | (with_reducible refine o5_sI (by assumption) (fun _ _ => ?_))
    | (with_reducible refine o5_sB (by assumption) (fun _ _ => ?_))
    | (with_reducible refine o5_sR (by assumption) (fun _ _ => ?_))
    | (with_reducible refine o8_nR (by assumption) (fun _ _ => ?_))
    | (with_reducible refine o5_nI (by assumption) (fun _ _ => ?_))
    | (with_reducible refine o5_cp (by assumption) (fun _ _ => ?_))
    | (with_reducible refine o5_cl (by assumption) (fun _ _ => ?_))
    | (with_reducible refine o5_ap (by decide) (by assumption) (fun _ _ => ?_))
    | (with_reducible refine o8_vI hE (by decide) (by assumption) (fun _ _ => ?_))
    | (with_reducible refine o8_vV hE (by decide) (by assumption) (fun _ _ => ?_))
    | (with_reducible refine o8_vR hE (by decide) (by assumption) (fun _ _ => ?_))
    | (with_reducible refine o8_dI hE (by decide) (by assumption) (fun _ _ => ?_))
    | (with_reducible refine o8_dV hE (by decide) (by assumption) (fun _ _ => ?_))
    | (with_reducible refine o8_dR hE (by decide) (by assumption) (fun _ _ => ?_))
    | (with_reducible refine o8_nV hE (by decide) (by assumption) (fun _ _ => ?_))
    | (with_reducible refine o5_rd (fun _ => ?_)))
theorem n8_209_22 (hE : fE8 D) (o1 : Option Nat) (s0 : Int32) (s1 : Option Nat) (h : rm_H) (z : nF5 Hz h) : oK5 Hz (b209_22 L xs zf D w o1 s0 s1 h) := by
  unfold b209_22
  repeat' (first
    | with_reducible exact o5_dr (by assumption)
    | with_reducible exact o5_so (by assumption)
    | exact o5_none
    | with_reducible exact n8_209_29 hE _ (by assumption)
    | with_reducible refine o5_if ?_ ?_
    | (with_reducible refine o5_pF (by decide) (by assumption) (fun _ _ => ?_))
    | (with_reducible refine o5_sI (by assumption) (fun _ _ => ?_))
    | (with_reducible refine o5_sB (by assumption) (fun _ _ => ?_))
    | (with_reducible refine o5_sR (by assumption) (fun _ _ => ?_))
    | (with_reducible refine o8_nR (by assumption) (fun _ _ => ?_))
    | (with_reducible refine o5_nI (by assumption) (fun _ _ => ?_))
    | (with_reducible refine o5_cp (by assumption) (fun _ _ => ?_))
    | (with_reducible refine o5_cl (by assumption) (fun _ _ => ?_))
    | (with_reducible refine o5_ap (by decide) (by assumption) (fun _ _ => ?_))
    | (with_reducible refine o8_vI hE (by decide) (by assumption) (fun _ _ => ?_))
    | (with_reducible refine o8_vV hE (by decide) (by assumption) (fun _ _ => ?_))
    | (with_reducible refine o8_vR hE (by decide) (by assumption) (fun _ _ => ?_))
    | (with_reducible refine o8_dI hE (by decide) (by assumption) (fun _ _ => ?_))
    | (with_reducible refine o8_dV hE (by decide) (by assumption) (fun _ _ => ?_))
    | (with_reducible refine o8_dR hE (by decide) (by assumption) (fun _ _ => ?_))
    | (with_reducible refine o8_nV hE (by decide) (by assumption) (fun _ _ => ?_))
    | (with_reducible refine o5_rd (fun _ => ?_)))
theorem n8_209_0 (hE : fE8 D) (o0 : Option Nat) (o1 : Option Nat) (i2 : Int32) (h : rm_H) (z : nF5 Hz h) : oK5 Hz (b209_0 L xs zf D w o0 o1 i2 h) := by
  unfold b209_0
  repeat' (first
    | with_reducible exact o5_dr (by assumption)
    | with_reducible exact o5_so (by assumption)
    | exact o5_none
    | with_reducible exact n8_209_22 hE _ _ _ _ (by assumption)
    | with_reducible exact n8_209_29 hE _ (by assumption)
    | with_reducible refine o5_if ?_ ?_
    | (with_reducible refine o5_pF (by decide) (by assumption) (fun _ _ => ?_))
    | (with_reducible refine o5_sI (by assumption) (fun _ _ => ?_))
    | (with_reducible refine o5_sB (by assumption) (fun _ _ => ?_))
    | (with_reducible refine o5_sR (by assumption) (fun _ _ => ?_))
    | (with_reducible refine o8_nR (by assumption) (fun _ _ => ?_))
    | (with_reducible refine o5_nI (by assumption) (fun _ _ => ?_))
    | (with_reducible refine o5_cp (by assumption) (fun _ _ => ?_))
    | (with_reducible refine o5_cl (by assumption) (fun _ _ => ?_))
    | (with_reducible refine o5_ap (by decide) (by assumption) (fun _ _ => ?_))
    | (with_reducible refine o8_vI hE (by decide) (by assumption) (fun _ _ => ?_))
    | (with_reducible refine o8_vV hE (by decide) (by assumption) (fun _ _ => ?_))
    | (with_reducible refine o8_vR hE (by decide) (by assumption) (fun _ _ => ?_))
    | (with_reducible refine o8_dI hE (by decide) (by assumption) (fun _ _ => ?_))
    | (with_reducible refine o8_dV hE (by decide) (by assumption) (fun _ _ => ?_))
    | (with_reducible refine o8_dR hE (by decide) (by assumption) (fun _ _ => ?_))
    | (with_reducible refine o8_nV hE (by decide) (by assumption) (fun _ _ => ?_))
    | (with_reducible refine o5_rd (fun _ => ?_)))
theorem n8_210_0 (hE : fE8 D) (o0 : Option Nat) (o1 : Option Nat) (h : rm_H) (z : nF5 Hz h) : oK5 Hz (b210_0 L xs zf D w o0 o1 h) := by
  unfold b210_0
  repeat' (first
    | with_reducible exact o5_dr (by assumption)
    | with_reducible exact o5_so (by assumption)
    | exact o5_none
    | with_reducible refine o5_if ?_ ?_
    | (with_reducible refine o5_pF (by decide) (by assumption) (fun _ _ => ?_))
    | (with_reducible refine o5_sI (by assumption) (fun _ _ => ?_))
    | (with_reducible refine o5_sB (by assumption) (fun _ _ => ?_))
    | (with_reducible refine o5_sR (by assumption) (fun _ _ => ?_))
    | (with_reducible refine o8_nR (by assumption) (fun _ _ => ?_))
    | (with_reducible refine o5_nI (by assumption) (fun _ _ => ?_))
    | (with_reducible refine o5_cp (by assumption) (fun _ _ => ?_))
    | (with_reducible refine o5_cl (by assumption) (fun _ _ => ?_))
    | (with_reducible refine o5_ap (by decide) (by assumption) (fun _ _ => ?_))
    | (with_reducible refine o8_vI hE (by decide) (by assumption) (fun _ _ => ?_))
    | (with_reducible refine o8_vV hE (by decide) (by assumption) (fun _ _ => ?_))
    | (with_reducible refine o8_vR hE (by decide) (by assumption) (fun _ _ => ?_))
    | (with_reducible refine o8_dI hE (by decide) (by assumption) (fun _ _ => ?_))
    | (with_reducible refine o8_dV hE (by decide) (by assumption) (fun _ _ => ?_))
    | (with_reducible refine o8_dR hE (by decide) (by assumption) (fun _ _ => ?_))
    | (with_reducible refine o8_nV hE (by decide) (by assumption) (fun _ _ => ?_))
    | (with_reducible refine o5_rd (fun _ => ?_)))
theorem n8_211_0 (hE : fE8 D) (o0 : Option Nat) (o1 : Option Nat) (h : rm_H) (z : nF5 Hz h) : oK5 Hz (b211_0 L xs zf D w o0 o1 h) := by
  unfold b211_0
  repeat' (first
    | with_reducible exact o5_dr (by assumption)
    | with_reducible exact o5_so (by assumption)
    | exact o5_none
    | with_reducible refine o5_if ?_ ?_
    | (with_reducible refine o5_pF (by decide) (by assumption) (fun _ _ => ?_))
    | (with_reducible refine o5_sI (by assumption) (fun _ _ => ?_))
    | (with_reducible refine o5_sB (by assumption) (fun _ _ => ?_))
    | (with_reducible refine o5_sR (by assumption) (fun _ _ => ?_))
    | (with_reducible refine o8_nR (by assumption) (fun _ _ => ?_))
    | (with_reducible refine o5_nI (by assumption) (fun _ _ => ?_))
    | (with_reducible refine o5_cp (by assumption) (fun _ _ => ?_))
    | (with_reducible refine o5_cl (by assumption) (fun _ _ => ?_))
    | (with_reducible refine o5_ap (by decide) (by assumption) (fun _ _ => ?_))
    | (with_reducible refine o8_vI hE (by decide) (by assumption) (fun _ _ => ?_))
    | (with_reducible refine o8_vV hE (by decide) (by assumption) (fun _ _ => ?_))
    | (with_reducible refine o8_vR hE (by decide) (by assumption) (fun _ _ => ?_))
    | (with_reducible refine o8_dI hE (by decide) (by assumption) (fun _ _ => ?_))
    | (with_reducible refine o8_dV hE (by decide) (by assumption) (fun _ _ => ?_))
    | (with_reducible refine o8_dR hE (by decide) (by assumption) (fun _ _ => ?_))
    | (with_reducible refine o8_nV hE (by decide) (by assumption) (fun _ _ => ?_))
    | (with_reducible refine o5_rd (fun _ => ?_)))
theorem n8_212_22 (hE : fE8 D) (h : rm_H) (z : nF5 Hz h) : oK5 Hz (b212_22 L xs zf D w h) := by
  unfold b212_22
  repeat' (first
    | with_reducible exact o5_dr (by assumption)
    | with_reducible exact o5_so (by assumption)
    | exact o5_none
    | with_reducible refine o5_if ?_ ?_
    | (with_reducible refine o5_pF (by decide) (by assumption) (fun _ _ => ?_))
    | (with_reducible refine o5_sI (by assumption) (fun _ _ => ?_))
    | (with_reducible refine o5_sB (by assumption) (fun _ _ => ?_))
    | (with_reducible refine o5_sR (by assumption) (fun _ _ => ?_))
    | (with_reducible refine o8_nR (by assumption) (fun _ _ => ?_))
    | (with_reducible refine o5_nI (by assumption) (fun _ _ => ?_))
    | (with_reducible refine o5_cp (by assumption) (fun _ _ => ?_))
    | (with_reducible refine o5_cl (by assumption) (fun _ _ => ?_))
    | (with_reducible refine o5_ap (by decide) (by assumption) (fun _ _ => ?_))
    | (with_reducible refine o8_vI hE (by decide) (by assumption) (fun _ _ => ?_))
    | (with_reducible refine o8_vV hE (by decide) (by assumption) (fun _ _ => ?_))
    | (with_reducible refine o8_vR hE (by decide) (by assumption) (fun _ _ => ?_))
    | (with_reducible refine o8_dI hE (by decide) (by assumption) (fun _ _ => ?_))
    | (with_reducible refine o8_dV hE (by decide) (by assumption) (fun _ _ => ?_))
    | (with_reducible refine o8_dR hE (by decide) (by assumption) (fun _ _ => ?_))
    | (with_reducible refine o8_nV hE (by decide) (by assumption) (fun _ _ => ?_))
    | (with_reducible refine o5_rd (fun _ => ?_)))
end N8B
