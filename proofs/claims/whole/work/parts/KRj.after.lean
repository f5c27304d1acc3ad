/-! blocks -/
section N8B
variable {L : Nat} {xs : Nat → Int32} {zf : Value} {D : dD} {w : Nat} {Hz : rm_H}
theorem n8_181_0 (hE : fE8 D) (o0 : Option Nat) (o1 : Option Nat) (h : rm_H) (z : nF5 Hz h) : oK5 Hz (b181_0 L xs zf D w o0 o1 h) := by
  unfold b181_0
  repeat' (first
    | with_reducible exact o5_dr (by assumption)
    | with_reducible exact o5_so (by assumption)
    | exact o5_none
    | with_reducible exact n8_181_2 hE _ _ _ _ _ (by assumption)
    | with_reducible refine o5_if ?_ ?_
    | (with_reducible refine o5_pF (by decide) (by assumption) (fun _ _ => ?_))
    | (with_reducible refine o5_sI (by assumption) (fun _ _ => ?_))
    | (with_reducible refine o5_sB (by assumption) (fun _ _ => ?_))
    | (with_reducible refine o5_sR (by assumption) (fun _ _ => ?_))
    | (with_reducible refine o8_nR (by assumption) (fun _ _ => ?_))
    | (with_reducible refine o5_nI (by assumption) (fun _ _ => ?_))
    | (with_reducible refine o5_cp (by assumption) (fun _ _ => ?_))
    | (with_reducible refine o5_cl (by assumption) (fun _ _ => ?_))
    | (with_reducible refine o5_ap (by decide) (by assumption) (fun _ _ => ?_))
    | (with_reducible refine o8_vI hE (by decide) (by assumption) (fun _ _ => ?_))
    | (with_reducible refine o8_vV hE (by decide) (by assumption) (fun _ _ => ?_))
    | (with_reducible refine o8_vR hE (by decide) (by assumption) (fun _ _ => ?_))
    | (with_reducible refine o8_dI hE (by decide) (by assumption) (fun _ _ => ?_))
    | (with_reducible refine o8_dV hE (by decide) (by assumption) (fun _ _ => ?_))
    | (with_reducible refine o8_dR hE (by decide) (by assumption) (fun _ _ => ?_))
    | (with_reducible refine o8_nV hE (by decide) (by assumption) (fun _ _ => ?_))
    | (with_reducible refine o5_rd (fun _ => ?_)))
theorem n8_182_19 (hE : fE8 D) (s0 : Int32) (h : rm_H) (z : nF5 Hz h) : oK5 Hz (b182_19 L xs zf D w s0 h) := by
  unfold b182_19
  repeat' (first
    | with_reducible exact o5_dr (by assumption)
    | with_reducible exact o5_so (by assumption)
    | exact o5_none
    | with_reducible refine o5_if ?_ ?_
    | (with_reducible refine o5_pF (by decide) (by assumption) (fun _ _ => ?_))
    | (with_reducible refine o5_sI (by assumption) (fun _ _ => ?_))
    | (with_reducible refine o5_sB (by assumption) (fun _ _ => ?_))
    | (with_reducible refine o5_sR (by assumption) (fun _ _ => ?_))
    | (with_reducible refine o8_nR (by assumption) (fun _ _ => ?_))
    | (with_reducible refine o5_nI (by assumption) (fun _ _ => ?_))
    | (with_reducible refine o5_cp (by assumption) (fun _ _ => ?_))
    | (with_reducible refine o5_cl (by assumption) (fun _ _ => ?_))
    | (with_reducible refine o5_ap (by decide) (by assumption) (fun _ _ => ?_))
    | (with_reducible refine o8_vI hE (by decide) (by assumption) (fun _ _ => ?_))
    | (with_reducible refine o8_vV hE (by decide) (by assumption) (fun _ _ => ?_))
    | (with_reducible refine o8_vR hE (by decide) (by assumption) (fun _ _ => ?_))
    | (with_reducible refine o8_dI hE (by decide) (by assumption) (fun _ _ => ?_))
    | (with_reducible refine o8_dV hE (by decide) (by assumption) (fun _ _ => ?_))
    | (with_reducible refine o8_dR hE (by decide) (by assumption) (fun _ _ => ?_))
    | (with_reducible refine o8_nV hE (by decide) (by assumption) (fun _ _ => ?_))
    | (with_reducible refine o5_rd (fun _ => ?_)))
theorem n8_182_0 (hE : fE8 D) (o0 : Option Nat) (o1 : Option Nat) (h : rm_H) (z : nF5 Hz h) : oK5 Hz (b182_0 L xs zf D w o0 o1 h) := by
  unfold b182_0
  repeat' (first
    | with_reducible exact o5_dr (by assumption)
    | with_reducible exact o5_so (by assumption)
    | exact o5_none
    | with_reducible exact n8_182_19 hE _ _ (by assumption)
    | with_reducible refine o5_if ?_ ?_
    | (with_reducible refine o5_pF (by decide) (by assumption) (fun _ _ => ?_))
    | (with_reducible refine o5_sI (by assumption) (fun _ _ => ?_))
    | (with_reducible refine o5_sB (by assumption) (fun _ _ => ?_))
    | (with_reducible refine o5_sR (by assumption) (fun _ _ => ?_))
    | (with_reducible refine o8_nR (by assumption) (fun _ _ => ?_))
    | (with_reducible refine o5_nI (by assumption) (fun _ _ => ?_))
    | (with_reducible refine o5_cp (by assumption) (fun _ _ => ?_))
    | (with_reducible refine o5_cl (by assumption) (fun _ _ => ?_))
    | (with_reducible refine o5_ap (by decide) (by assumption) (fun _ _ => ?_))
    | (with_reducible refine o8_vI hE (by decide) (by assumption) (fun _ _ => ?_))
    | (with_reducible refine o8_vV hE (by decide) (by assumption) (fun _ _ => ?_))
    | (with_reducible refine o8_vR hE (by decide) (by assumption) (fun _ _ => ?_))
    | (with_reducible refine o8_dI hE (by decide) (by assumption) (fun _ _ => ?_))
    | (with_reducible refine o8_dV hE (by decide) (by assumption) (fun _ _ => ?_))
    | (with_reducible refine o8_dR hE (by decide) (by assumption) (fun _ _ => ?_))
    | (with_reducible refine o8_nV hE (by decide) (by assumption) (fun _ _ => ?_))
    | (with_reducible refine o5_rd (fun _ => ?_)))
theorem n8_183_21 (hE : fE8 D) (s0 : Int32) (h : rm_H) (z : nF5 Hz h) : oK5 Hz (b183_21 L xs zf D w s0 h) := by
  unfold b183_21
  repeat' (first
    | with_reducible exact o5_dr (by assumption)
    | with_reducible exact o5_so (by assumption)
    | exact o5_none
    | with_reducible refine o5_if ?_ ?_
    | (with_reducible refine o5_pF (by decide) (by assumption) (fun _ _ => ?_))
    | (with_reducible refine o5_sI (by assumption) (fun _ _ => ?_))
    | (with_reducible refine o5_sB (by assumption) (fun _ _ => ?_))
    | (with_reducible refine o5_sR (by assumption) (fun _ _ => ?_))
    | (with_reducible refine o8_nR (by assumption) (fun _ _ => ?_))
    | (with_reducible refine o5_nI (by assumption) (fun _ _ => ?_))
    | (with_reducible refine o5_cp (by assumption) (fun _ _ => ?_))
    | (with_reducible refine o5_cl (by assumption) (fun _ _ => ?_))
    | (with_reducible refine o5_ap (by decide) (by assumption) (fun _ _ => ?_))
    | (with_reducible refine o8_vI hE (by decide) (by assumption) (fun _ _ => ?_))
    | (with_reducible refine o8_vV hE (by decide) (by assumption) (fun _ _ => ?_))
    | (with_reducible refine o8_vR hE (by decide) (by assumption) (fun _ _ => ?_))
    | (with_reducible refine o8_dI hE (by decide) (by assumption) (fun _ _ => ?_))
    | (with_reducible refine o8_dV hE (by decide) (by assumption) (fun _ _ => ?_))
    | (with_reducible refine o8_dR hE (by decide) (by assumption) (fun _ _ => ?_))
    | (with_reducible refine o8_nV hE (by decide) (by assumption) (fun _ _ => ?_))
    | (with_reducible refine o5_rd (fun _ => ?_)))
theorem n8_183_16 (hE : fE8 D) (h : rm_H) (z : nF5 Hz h) : oK5 Hz (b183_16 L xs zf D w h) := by
  unfold b183_16
  repeat' (first
    | with_reducible exact o5_dr (by assumption)
    | with_reducible exact o5_so (by assumption)
    | exact o5_none
    | with_reducible exact n8_183_21 hE _ _ (by assumption)
    | with_reducible refine o5_if ?_ ?_
    | (with_reducible refine o5_pF (by decide) (by assumption) (fun _ _ => ?_))
    | (with_reducible refine o5_sI (by assumption) (fun _ _ => ?_))
    | (with_reducible refine o5_sB (by assumption) (fun _ _ => ?_))
    | (with_reducible refine o5_sR (by assumption) (fun _ _ => ?_))
    | (with_reducible refine o8_nR (by assumption) (fun _ _ => ?_))
    | (with_reducible refine o5_nI (by assumption) (fun _ _ => ?_))
    | (with_reducible refine o5_cp (by assumption) (fun _ _ => ?_))
    | (with_reducible refine o5_cl (by assumption) (fun _ _ => ?_))
    | (with_reducible refine o5_ap (by decide) (by assumption) (fun _ _ => ?_))
    | (with_reducible refine o8_vI hE (by decide) (by assumption) (fun _ _ => ?_))
    | (with_reducible refine o8_vV hE (by decide) (by assumption) (fun _ _ => ?_))
    | (with_reducible refine o8_vR hE (by decide) (by assumption) (fun _ _ => ?_))
    | (with_reducible refine o8_dI hE (by decide) (by assumption) (fun _ _ => ?_))
    | (with_reducible refine o8_dV hE (by decide) (by assumption) (fun _ _ => ?_))
    | (with_reducible refine o8_dR hE (by decide) (by assumption) (fun _ _ => ?_))
    | (with_reducible refine o8_nV hE (by decide) (by assumption) (fun _ _ => ?_))
    | (with_reducible refine o5_rd (fun _ => ?_)))
theorem n8_183_0 (hE : fE8 D) (i1 : Int32) (h : rm_H) (z : nF5 Hz h) : oK5 Hz (b183_0 L xs zf D w i1 h) := by
  unfold b183_0
  repeat' (first
    | with_reducible exact o5_dr (by assumption)
    | with_reducible exact o5_so (by assumption)
    | exact o5_none
    | with_reducible exact n8_183_16 hE _ (by assumption)
    | with_reducible exact n8_183_21 hE _ _ (by assumption)
    | with_reducible refine o5_if ?_ ?_
    | (with_reducible refine o5_pF (by decide) (by assumption) (fun _ _ => ?_))
    | (with_reducible refine o5_sI (by assumption) (fun _ _ => ?_))
    | (with_reducible refine o5_sB (by assumption) (fun _ _ => ?_))
    | (with_reducible refine o5_sR (by assumption) (fun _ _ => ?_))
    | (with_reducible refine o8_nR (by assumption) (fun _ _ => ?_))
    | (with_reducible refine o5_nI (by assumption) (fun _ _ => ?_))
    | (with_reducible refine o5_cp (by assumption) (fun _ _ => ?_))
    | (with_reducible refine o5_cl (by assumption) (fun _ _ => ?_))
    | (with_reducible refine o5_ap (by decide) (by assumption) (fun _ _ => ?_))
    | (with_reducible refine o8_vI hE (by decide) (by assumption) (fun _ _ => ?_))
    | (with_reducible refine o8_vV hE (by decide) (by assumption) (fun _ _ => ?_))
    | (with_reducible refine o8_vR hE (by decide) (by assumption) (fun _ _ => ?_))
    | (with_reducible refine o8_dI hE (by decide) (by assumption) (fun _ _ => ?_))
    | (with_reducible refine o8_dV hE (by decide) (by assumption) (fun _ _ => ?_))
    | (with_reducible refine o8_dR hE (by decide) (by assumption) (fun _ _ => ?_))
    | (with_reducible refine o8_nV hE (by decide) (by assumption) (fun _ _ => ?_))
    | (with_reducible refine o5_rd (fun _ => ?_)))
theorem n8_184_82 (hE : fE8 D) (o0 : Option Nat) (o3 : Option Nat) (h : rm_H) (z : nF5 Hz h) : oK5 Hz (b184_82 L xs zf D w o0 o3 h) := by
  unfold b184_82
  repeat' (first
    | with_reducible exact o5_dr (by assumption)
    | with_reducible exact o5_so (by assumption)
    | exact o5_none
    | with_reducible refine o5_if ?_ ?_
    | (with_reducible refine o5_pF (by decide) (by assumption) (fun _ _ => ?_))
    | (with_reducible refine o5_sI (by assumption) (fun _ _ => ?_))
    | (with_reducible refine o5_sB (by assumption) (fun _ _ => ?_))
    | (with_reducible refine o5_sR (by assumption) (fun _ _ => ?_))
    | (with_reducible refine o8_nR (by assumption) (fun _ _ => ?_))
    | (with_reducible refine o5_nI (by assumption) (fun _ _ => ?_))
    | (with_reducible refine o5_cp (by assumption) (fun _ _ => ?_))
    | (with_reducible refine o5_cl (by assumption) (fun _ _ => ?_))
    | (with_reducible refine o5_ap (by decide) (by assumption) (fun _ _ => ?_))
    | (with_reducible refine o8_vI hE (by decide) (by assumption) (fun _ _ => ?_))
    | (with_reducible refine o8_vV hE (by decide) (by assumption) (fun _ _ => ?_))
    | (with_reducible refine o8_vR hE (by decide) (by assumption) (fun _ _ => ?_))
    | (with_reducible refine o8_dI hE (by decide) (by assumption) (fun _ _ => ?_))
    | (with_reducible refine o8_dV hE (by decide) (by assumption) (fun _ _ => ?_))
    | (with_reducible refine o8_dR hE (by decide) (by assumption) (fun _ _ => ?_))
    | (with_reducible refine o8_nV hE (by decide) (by assumption) (fun _ _ => ?_))
    | (with_reducible refine o5_rd (fun _ => ?_)))
theorem n8_184_46 (hE : fE8 D) (o0 : Option Nat) (o1 : Option Nat) (i2 : Int32) (o3 : Option Nat) (s0 : Int32) (h : rm_H) (z : nF5 Hz h) : oK5 Hz (b184_46 L xs zf D w o0 o1 i2 o3 s0 h) := by
  unfold b184_46
  repeat' (first
    | with_reducible exact o5_dr (by assumption)
    | with_reducible exact o5_so (by assumption)
    | exact o5_none
    | with_reducible exact n8_184_82 hE _ _ _ (by assumption)
    | with_reducible refine o5_if ?_ ?_
    | (with_reducible refine o5_pF (by decide) (by assumption) (fun _ _ => ?_))
    | (with_reducible refine o5_sI (by assumption) (fun _ _ => ?_))
    | (with_reducible refine o5_sB (by assumption) (fun _ _ => ?_))
    | (with_reducible refine o5_sR (by assumption) (fun _ _ => ?_))
    | (with_reducible refine o8_nR (by assumption) (fun _ _ => ?_))
    | (with_reducible refine o5_nI (by assumption) (fun _ _ => ?_))
    | (with_reducible refine o5_cp (by assumption) (fun _ _ => ?_))
    | (with_reducible refine o5_cl (by assumption) (fun _ _ => ?_))
    | (with_reducible refine o5_ap (by decide) (by assumption) (fun _ _ => ?_))
    | (with_reducible refine o8_vI hE (by decide) (by assumption) (fun _ _ => ?_))
    | (with_reducible refine o8_vV hE (by decide) (by assumption) (fun _ _ => ?_))
    | (with_reducible refine o8_vR hE (by decide) (by assumption) (fun _ _ => ?_))
    | (with_reducible refine o8_dI hE (by decide) (by assumption) (fun _ _ => ?_))
    | (with_reducible refine o8_dV hE (by decide) (by assumption) (fun _ _ => ?_))
    | (with_reducible refine o8_dR hE (by decide) (by assumption) (fun _ _ => ?_))
    | (with_reducible refine o8_nV hE (by decide) (by assumption) (fun _ _ => ?_))
    | (with_reducible refine o5_rd (fun _ => ?_)))
theorem n8_184_45 (hE : fE8 D) (o0 : Option Nat) (o1 : Option Nat) (i2 : Int32) (o3 : Option Nat) (h : rm_H) (z : nF5 Hz h) : oK5 Hz (b184_45 L xs zf D w o0 o1 i2 o3 h) := by
  unfold b184_45
  repeat' (first
    | with_reducible exact o5_dr (by assumption)
    | with_reducible exact o5_so (by assumption)
    | exact o5_none
    | with_reducible exact n8_184_46 hE _ _ _ _ _ _ (by assumption)
    | with_reducible refine o5_if ?_ ?_
    | (with_reducible refine o5_pF (by decide) (by assumption) (fun _ _ => ?_))
    | (with_reducible refine o5_sI (by assumption) (fun _ _ => ?_))
    | (with_reducible refine o5_sB (by assumption) (fun _ _ => ?_))
    | (with_reducible refine o5_sR (by assumption) (fun _ _ => ?_))
    | (with_reducible refine o8_nR (by assumption) (fun _ _ => ?_))
    | (with_reducible refine o5_nI (by assumption) (fun _ _ => ?_))
    | (with_reducible refine o5_cp (by assumption) (fun _ _ => ?_))
    | (with_reducible refine o5_cl (by assumption) (fun _ _ => ?_))
    | (with_reducible refine o5_ap (by decide) (by assumption) (fun _ _ => ?_))
    | (with_reducible refine o8_vI hE (by decide) (by assumption) (fun _ _ => ?_))
    | (with_reducible refine o8_vV hE (by decide) (by assumption) (fun _ _ => ?_))
    | (with_reducible refine o8_vR hE (by decide) (by assumption) (fun _ _ => ?_))
    | (with_reducible refine o8_dI hE (by decide) (by assumption) (fun _ _ => ?_))
    | (with_reducible refine o8_dV hE (by decide) (by assumption) (fun _ _ => ?_))
    | (with_reducible refine o8_dR hE (by decide) (by assumption) (fun _ _ => ?_))
    | (with_reducible refine o8_nV hE (by decide) (by assumption) (fun _ _ => ?_))
    | (with_reducible refine o5_rd (fun _ => ?_)))
theorem n8_184_0 (hE : fE8 D) (o0 : Option Nat) (o1 : Option Nat) (h : rm_H) (z : nF5 Hz h) : oK5 Hz (b184_0 L xs zf D w o0 o1 h) := by
  unfold b184_0
  repeat' (first
    | with_reducible exact o5_dr (by assumption)
    | with_reducible exact o5_so (by assumption)
    | exact o5_none
    | with_reducible exact n8_184_45 hE _ _ _ _ _ (by assumption)
    | with_reducible exact n8_184_46 hE _ _ _ _ _ _ (by assumption)
    | with_reducible refine o5_if ?_ ?_
    | (with_reducible refine o5_pF (by decide) (by assumption) (fun _ _ => ?_))
    | (with_reducible refine o5_sI (by assumption) (fun _ _ => ?_))
    | (with_reducible refine o5_sB (by assumption) (fun _ _ => ?_))
    | (with_reducible refine o5_sR (by assumption) (fun _ _ => ?_))
    | (with_reducible refine o8_nR (by assumption) (fun _ _ => ?_))
    | (with_reducible refine o5_nI (by assumption) (fun _ _ => ?_))
    | (with_reducible refine o5_cp (by assumption) (fun _ _ => ?_))
    | (with_reducible refine o5_cl (by assumption) (fun _ _ => ?_))
    | (with_reducible refine o5_ap (by decide) (by assumption) (fun _ _ => ?_))
    | (with_reducible refine o8_vI hE (by decide) (by assumption) (fun _ _ => ?_))
    | (with_reducible refine o8_vV hE (by decide) (by assumption) (fun _ _ => ?_))
    | (with_reducible refine o8_vR hE (by decide) (by assumption) (fun _ _ => ?_))
    | (with_reducible refine o8_dI hE (by decide) (by assumption) (fun _ _ => ?_))
    | (with_reducible refine o8_dV hE (by decide) (by assumption) (fun _ _ => ?_))
    | (with_reducible refine o8_dR hE (by decide) (by assumption) (fun _ _ => ?_))
    | (with_reducible refine o8_nV hE (by decide) (by assumption) (fun _ _ => ?_))
    | (with_reducible refine o5_rd (fun _ => ?_)))
theorem n8_185_48 (hE : fE8 D) (o0 : Option Nat) (h : rm_H) (z : nF5 Hz h) : oK5 Hz (b185_48 L xs zf D w o0 h) := by
  unfold b185_48
  repeat' (first
    | with_reducible exact o5_dr (by assumption)
    | with_reducible exact o5_so (by assumption)
    | exact o5_none
    | with_reducible refine o5_if ?_ ?_
    | (with_reducible refine o5_pF (by decide) (by assumption) (fun _ _ => ?_))
    | (with_reducible refine o5_sI (by assumption) (fun _ _ => ?_))
    | (with_reducible refine o5_sB (by assumption) (fun _ _ => ?_))
    | (with_reducible refine o5_sR (by assumption) (fun _ _ => ?_))
    | (with_reducible refine o8_nR (by assumption) (fun _ _ => ?_))
    | (with_reducible refine o5_nI (by assumption) (fun _ _ => ?_))
    | (with_reducible refine o5_cp (by assumption) (fun _ _ => ?_))
    | (with_reducible refine o5_cl (by assumption) (fun _ _ => ?_))
    | (with_reducible refine o5_ap (by decide) (by assumption) (fun _ _ => ?_))
    | (with_reducible refine o8_vI hE (by decide) (by assumption) (fun _ _ => ?_))
    | (with_reducible refine o8_vV hE (by decide) (by assumption) (fun _ _ => ?_))
    | (with_reducible refine o8_vR hE (by decide) (by assumption) (fun _ _ => ?_))
    | (with_reducible refine o8_dI hE (by decide) (by assumption) (fun _ _ => ?_))
    | (with_reducible refine o8_dV hE (by decide) (by assumption) (fun _ _ => ?_))
    | (with_reducible refine o8_dR hE (by decide) (by assumption) (fun _ _ => ?_))
    | (with_reducible refine o8_nV hE (by decide) (by assumption) (fun _ _ => ?_))
    | (with_reducible refine o5_rd (fun _ => ?_)))
theorem n8_185_38 (hE : fE8 D) (o0 : Option Nat) (o1 : Option Nat) (s0 : Int32) (s1 : Option Nat) (h : rm_H) (z : nF5 Hz h) : oK5 Hz (b185_38 L xs zf D w o0 o1 s0 s1 h) := by
  unfold b185_38
  repeat' (first
    | with_reducible exact o5_dr (by assumption)
    | with_reducible exact o5_so (by assumption)
    | exact o5_none
    | with_reducible exact n8_185_48 hE _ _ (by assumption)
    | with_reducible refine o5_if ?_ ?_
    | (with_reducible refine o5_pF (by decide) (by assumption) (fun _ _ => ?_))
    | (with_reducible refine o5_sI (by assumption) (fun _ _ => ?_))
    | (with_reducible refine o5_sB (by assumption) (fun _ _ => ?_))
    | (with_reducible refine o5_sR (by assumption) (fun _ _ => ?_))
    | (with_reducible refine o8_nR (by assumption) (fun _ _ => ?_))
    | (with_reducible refine o5_nI (by assumption) (fun _ _ => ?_))
    | (with_reducible refine o5_cp (by assumption) (fun _ _ => ?_))
    | (with_reducible refine o5_cl (by assumption) (fun _ _ => ?_))
    | (with_reducible refine o5_ap (by decide) (by assumption) (fun _ _ => ?_))
    | (with_reducible refine o8_vI hE (by decide) (by assumption) (fun _ _ => ?_))
    | (with_reducible refine o8_vV hE (by decide) (by assumption) (fun _ _ => ?_))
    | (with_reducible refine o8_vR hE (by decide) (by assumption) (fun _ _ => ?_))
    | (with_reducible refine o8_dI hE (by decide) (by assumption) (fun _ _ => ?_))
    | (with_reducible refine o8_dV hE (by decide) (by assumption) (fun _ _ => ?_))
    | (with_reducible refine o8_dR hE (by decide) (by assumption) (fun _ _ => ?_))
    | (with_reducible refine o8_nV hE (by decide) (by assumption) (fun _ _ => ?_))
    | (with_reducible refine o5_rd (fun _ => ?_)))
theorem n8_185_24 (hE : fE8 D) (o0 : Option Nat) (o1 : Option Nat) (i2 : Int32) (h : rm_H) (z : nF5 Hz h) : oK5 Hz (b185_24 L xs zf D w o0 o1 i2 h) := by
  unfold b185_24
  repeat' (first
    | with_reducible exact o5_dr (by assumption)
    | with_reducible exact o5_so (by assumption)
    | exact o5_none
    | with_reducible exact n8_185_38 hE _ _ _ _ _ (by assumption)
    | with_reducible refine o5_if ?_ ?_
    | (with_reducible refine o5_pF (by decide) (by assumption) (fun _ _ => ?_))
    | (with_reducible refine o5_sI (by assumption) (fun _ _ => ?_))
    | (with_reducible refine o5_sB (by assumption) (fun _ _ => ?_))
    | (with_reducible refine o5_sR (by assumption) (fun _ _ => ?_))
    | (with_reducible refine o8_nR (by assumption) (fun _ _ => ?_))
    | (with_reducible refine o5_nI (by assumption) (fun _ _ => ?_))
    | (with_reducible refine o5_cp (by assumption) (fun _ _ => ?_))
    | (with_reducible refine o5_cl (by assumption) (fun _ _ => ?_))
    | (with_reducible refine o5_ap (by decide) (by assumption) (fun _ _ => ?_))
    | (with_reducible refine o8_vI hE (by decide) (by assumption) (fun _ _ => ?_))
    | (with_reducible refine o8_vV hE (by decide) (by assumption) (fun _ _ => ?_))
    | (with_reducible refine o8_vR hE (by decide) (by assumption) (fun _ _ => ?_))
    | (with_reducible refine o8_dI hE (by decide) (by assumption) (fun _ _ => ?_))
    | (with_reducible refine o8_dV hE (by decide) (by assumption) (fun _ _ => ?_))
    | (with_reducible refine o8_dR hE (by decide) (by assumption) (fun _ _ => ?_))
    | (with_reducible refine o8_nV hE (by decide) (by assumption) (fun _ _ => ?_))
    | (with_reducible refine o5_rd (fun _ => ?_)))
theorem n8_185_0 (hE : fE8 D) (o0 : Option Nat) (o1 : Option Nat) (h : rm_H) (z : nF5 Hz h) : oK5 Hz (b185_0 L xs zf D w o0 o1 h) := by
  unfold b185_0
  repeat' (first
    | with_reducible exact o5_dr (by assumption)
    | with_reducible exact o5_so (by assumption)
    | exact o5_none
    | with_reducible exact n8_185_24 hE _ _ _ _ (by assumption)
    | with_reducible exact n8_185_48 hE _ _ (by assumption)
    | with_reducible refine o5_if ?_ ?_
    | (with_reducible refine o5_pF (by decide) (by assumption) (fun _ _ => ?_))
    | (with_reducible refine o5_sI (by assumption) (fun _ _ => ?_))
    | (with_reducible refine o5_sB (by assumption) (fun _ _ => ?_))
    | (with_reducible refine o5_sR (by assumption) (fun _ _ => ?_))
    | (with_reducible refine o8_nR (by assumption) (fun _ _ => ?_))
    | (with_reducible refine o5_nI (by assumption) (fun _ _ => ?_))
    | (with_reducible refine o5_cp (by assumption) (fun _ _ => ?_))
    | (with_reducible refine o5_cl (by assumption) (fun _ _ => ?_))
    | (with_reducible refine o5_ap (by decide) (by assumption) (fun _ _ => ?_))
    | (with_reducible refine o8_vI hE (by decide) (by assumption) (fun _ _ => ?_))
    | (with_reducible refine o8_vV hE (by decide) (by assumption) (fun _ _ => ?_))
    | (with_reducible refine o8_vR hE (by decide) (by assumption) (fun _ _ => ?_))
    | (with_reducible refine o8_dI hE (by decide) (by assumption) (fun _ _ => ?_))
    | (with_reducible refine o8_dV hE (by decide) (by assumption) (fun _ _ => ?_))
    | (with_reducible refine o8_dR hE (by decide) (by assumption) (fun _ _ => ?_))
    | (with_reducible refine o8_nV hE (by decide) (by assumption) (fun _ _ => ?_))
    | (with_reducible refine o5_rd (fun _ => ?_)))
theorem n8_186_0 (hE : fE8 D) (o0 : Option Nat) (o1 : Option Nat) (o2 : Option Nat) (i3 : Int32) (h : rm_H) (z : nF5 Hz h) : oK5 Hz (b186_0 L xs zf D w o0 o1 o2 i3 h) := by
  unfold b186_0
  repeat' (first
    | with_reducible exact o5_dr (by assumption)
    | with_reducible exact o5_so (by assumption)
    | exact o5_none
    | with_reducible refine o5_if ?_ ?_
    | (with_reducible refine o5_pF (by decide) (by assumption) (fun _ _ => ?_))
    | (with_reducible refine o5_sI (by assumption) (fun _ _ => ?_))
    | (with_reducible refine o5_sB (by assumption) (fun _ _ => ?_))
    | (with_reducible refine o5_sR (by assumption) (fun _ _ => ?_))
    | (with_reducible refine o8_nR (by assumption) (fun _ _ => ?_))
    | (with_reducible refine o5_nI (by assumption) (fun _ _ => ?_))
    | (with_reducible refine o5_cp (by assumption) (fun _ _ => ?_))
    | (with_reducible refine o5_cl (by assumption) (fun _ _ => ?_))
    | (with_reducible refine o5_ap (by decide) (by assumption) (fun _ _ => ?_))
    | (with_reducible refine o8_vI hE (by decide) (by assumption) (fun _ _ => ?_))
    | (with_reducible refine o8_vV hE (by decide) (by assumption) (fun _ _ => ?_))
    | (with_reducible refine o8_vR hE (by decide) (by assumption) (fun _ _ => ?_))
    | (with_reducible refine o8_dI hE (by decide) (by assumption) (fun _ _ => ?_))
    | (with_reducible refine o8_dV hE (by decide) (by assumption) (fun _ _ => ?_))
    | (with_reducible refine o8_dR hE (by decide) (by assumption) (fun _ _ => ?_))
    | (with_reducible refine o8_nV hE (by decide) (by assumption) (fun _ _ => ?_))
    | (with_reducible refine o5_rd (fun _ => ?_)))
theorem n8_187_113 (hE : fE8 D) (o6 : Option Nat) (s0 : Int32) (s1 : Option Nat) (h : rm_H) (z : nF5 Hz h) : oK5 Hz (b187_113 L xs zf D w o6 s0 s1 h) := by
  unfold b187_113
  repeat' (first
    | with_reducible exact o5_dr (by assumption)
    | with_reducible exact o5_so (by assumption)
    | exact o5_none
    | with_reducible refine o5_if ?_ ?_
    | (with_reducible refine o5_pF (by decide) (by assumption) (fun _ _ => ?_))
    | (with_reducible refine o5_sI (by assumption) (fun _ _ => ?_))
    | (with_reducible refine o5_sB (by assumption) (fun _ _ => ?_))
    | (with_reducible refine o5_sR (by assumption) (fun _ _ => ?_))
    | (with_reducible refine o8_nR (by assumption) (fun _ _ => ?_))
    | (with_reducible refine o5_nI (by assumption) (fun _ _ => ?_))
    | (with_reducible refine o5_cp (by assumption) (fun _ _ => ?_))
    | (with_reducible refine o5_cl (by assumption) (fun _ _ => ?_))
    | (with_reducible refine o5_ap (by decide) (by assumption) (fun _ _ => ?_))
    | (with_reducible refine o8_vI hE (by decide) (by assumption) (fun _ _ => ?_))
    | (with_reducible refine o8_vV hE (by decide) (by assumption) (fun _ _ => ?_))
    | (with_reducible refine o8_vR hE (by decide) (by assumption) (fun _ _ => ?_))
    | (with_reducible refine o8_dI hE (by decide) (by assumption) (fun _ _ => ?_))
    | (with_reducible refine o8_dV hE (by decide) (by assumption) (fun _ _ => ?_))
    | (with_reducible refine o8_dR hE (by decide) (by assumption) (fun _ _ => ?_))
    | (with_reducible refine o8_nV hE (by decide) (by assumption) (fun _ _ => ?_))
    | (with_reducible refine o5_rd (fun _ => ?_)))
theorem n8_187_68 (hE : fE8 D) (o0 : Option Nat) (o2 : Option Nat) (i3 : Int32) (i4 : Int32) (o6 : Option Nat) (h : rm_H) (z : nF5 Hz h) : oK5 Hz (b187_68 L xs zf D w o0 o2 i3 i4 o6 h) := by
  unfold b187_68
  repeat' (first
    | with_reducible exact o5_dr (by assumption)
    | with_reducible exact o5_so (by assumption)
    | exact o5_none
    | with_reducible exact n8_187_113 hE _ _ _ _ (by assumption)
    | with_reducible refine o5_if ?_ ?_
    | (with_reducible refine o5_pF (by decide) (by assumption) (fun _ _ => ?_))
    | (with_reducible refine o5_sI (by assumption) (fun _ _ => ?_))
    | (with_reducible refine o5_sB (by assumption) (fun _ _ => ?_))
    | (with_reducible refine o5_sR (by assumption) (fun _ _ => ?_))
    | (with_reducible refine o8_nR (by assumption) (fun _ _ => ?_))
    | (with_reducible refine o5_nI (by assumption) (fun _ _ => ?_))
    | (with_reducible refine o5_cp (by assumption) (fun _ _ => ?_))
    | (with_reducible refine o5_cl (by assumption) (fun _ _ => ?_))
    | (with_reducible refine o5_ap (by decide) (by assumption) (fun _ _ => ?_))
    | (with_reducible refine o8_vI hE (by decide) (by assumption) (fun _ _ => ?_))
    | (with_reducible refine o8_vV hE (by decide) (by assumption) (fun _ _ => ?_))
    | (with_reducible refine o8_vR hE (by decide) (by assumption) (fun _ _ => ?_))
    | (with_reducible refine o8_dI hE (by decide) (by assumption) (fun _ _ => ?_))
    | (with_reducible refine o8_dV hE (by decide) (by assumption) (fun _ _ => ?_))
    | (with_reducible refine o8_dR hE (by decide) (by assumption) (fun _ _ => ?_))
    | (with_reducible refine o8_nV hE (by decide) (by assumption) (fun _ _ => ?_))
    | (with_reducible refine o5_rd (fun _ => ?_)))
theorem n8_187_21 (hE : fE8 D) (o0 : Option Nat) (o1 : Option Nat) (o2 : Option Nat) (i3 : Int32) (i4 : Int32) (s0 : Int32) (h : rm_H) (z : nF5 Hz h) : oK5 Hz (b187_21 L xs zf D w o0 o1 o2 i3 i4 s0 h) := by
  unfold b187_21
  repeat' (first
    | with_reducible exact o5_dr (by assumption)
    | with_reducible exact o5_so (by assumption)
    | exact o5_none
    | with_reducible exact n8_187_68 hE _ _ _ _ _ _ (by assumption)
    | with_reducible refine o5_if ?_ ?_
    | (with_reducible refine o5_pF (by decide) (by assumption) (fun _ _ => ?_))
    | (with_reducible refine o5_sI (by assumption) (fun _ _ => ?_))
    | (with_reducible refine o5_sB (by assumption) (fun _ _ => ?_))
    | (with_reducible refine o5_sR (by assumption) (fun _ _ => ?_))
    | (with_reducible refine o8_nR (by assumption) (fun _ _ => ?_))
    | (with_reducible refine o5_nI (by assumption) (fun _ _ => ?_))
    | (with_reducible refine o5_cp (by assumption) (fun _ _ => ?_))
    | (with_reducible refine o5_cl (by assumption) (fun _ _ => ?_))
    | (with_reducible refine o5_ap (by decide) (by assumption) (fun _ _ => ?_))
    | (with_reducible refine o8_vI hE (by decide) (by assumption) (fun _ _ => ?_))
    | (with_reducible refine o8_vV hE (by decide) (by assumption) (fun _ _ => ?_))
    | (with_reducible refine o8_vR hE (by decide) (by assumption) (fun _ _ => ?_))
    | (with_reducible refine o8_dI hE (by decide) (by assumption) (fun _ _ => ?_))
    | (with_reducible refine o8_dV hE (by decide) (by assumption) (fun _ _ => ?_))
    | (with_reducible refine o8_dR hE (by decide) (by assumption) (fun _ _ => ?_))
    | (with_reducible refine o8_nV hE (by decide) (by assumption) (fun _ _ => ?_))
    | (with_reducible refine o5_rd (fun _ => ?_)))
theorem n8_187_0 (hE : fE8 D) (o0 : Option Nat) (o1 : Option Nat) (o2 : Option Nat) (i3 : Int32) (i4 : Int32) (h : rm_H) (z : nF5 Hz h) : oK5 Hz (b187_0 L xs zf D w o0 o1 o2 i3 i4 h) := by
  unfold b187_0
  repeat' (first
    | with_reducible exact o5_dr (by assumption)
    | with_reducible exact o5_so (by assumption)
    | exact o5_none
    | with_reducible exact n8_187_21 hE _ _ _ _ _ _ _ (by assumption)
    | with_reducible refine o5_if ?_ ?_
    | (with_reducible refine o5_pF (by decide) (by assumption) (fun _ _ => ?_))
    | (with_reducible refine o5_sI (by assumption) (fun _ _ => ?_))
    | (with_reducible refine o5_sB (by assumption) (fun _ _ => ?_))
    | (with_reducible refine o5_sR (by assumption) (fun _ _ => ?_))
    | (with_reducible refine o8_nR (by assumption) (fun _ _ => ?_))
    | (with_reducible refine o5_nI (by assumption) (fun _ _ => ?_))
    | (with_reducible refine o5_cp (by assumption) (fun _ _ => ?_))
    | (with_reducible refine o5_cl (by assumption) (fun _ _ => ?_))
    | (with_reducible refine o5_ap (by decide) (by assumption) (fun _ _ => ?_))
    | (with_reducible refine o8_vI hE (by decide) (by assumption) (fun _ _ => ?_))
    | (with_reducible refine o8_vV hE (by decide) (by assumption) (fun _ _ => ?_))
    | (with_reducible refine o8_vR hE (by decide) (by assumption) (fun _ _ => ?_))
    | (with_reducible refine o8_dI hE (by decide) (by assumption) (fun _ _ => ?_))
    | (with_reducible refine o8_dV hE (by decide) (by assumption) (fun _ _ => ?_))
    | (with_reducible refine o8_dR hE (by decide) (by assumption) (fun _ _ => ?_))
    | (with_reducible refine o8_nV hE (by decide) (by assumption) (fun _ _ => ?_))
    | (with_reducible refine o5_rd (fun _ => ?_)))
theorem n8_188_112 (hE : fE8 D) (h : rm_H) (z : nF5 Hz h) : oK5 Hz (b188_112 L xs zf D w h) := by
  unfold b188_112
  repeat' (first
    | with_reducible exact o5_dr (by assumption)
    | with_reducible exact o5_so (by assumption)
    | exact o5_none
    | with_reducible refine o5_if ?_ ?_
    | (with_reducible refine o5_pF (by decide) (by assumption) (fun _ _ => ?_))
    | (with_reducible refine o5_sI (by assumption) (fun _ _ => ?_))
    | (with_reducible refine o5_sB (by assumption) (fun _ _ => ?_))
    | (with_reducible refine o5_sR (by assumption) (fun _ _ => ?_))
    | (with_reducible refine o8_nR (by assumption) (fun _ _ => ?_))
    | (with_reducible refine o5_nI (by assumption) (fun _ _ => ?_))
    | (with_reducible refine o5_cp (by assumption) (fun _ _ => ?_))
    | (with_reducible refine o5_cl (by assumption) (fun _ _ => ?_))
    | (with_reducible refine o5_ap (by decide) (by assumption) (fun _ _ => ?_))
    | (with_reducible refine o8_vI hE (by decide) (by assumption) (fun _ _ => ?_))
    | (with_reducible refine o8_vV hE (by decide) (by assumption) (fun _ _ => ?_))
    | (with_reducible refine o8_vR hE (by decide) (by assumption) (fun _ _ => ?_))
    | (with_reducible refine o8_dI hE (by decide) (by assumption) (fun _ _ => ?_))
    | (with_reducible refine o8_dV hE (by decide) (by assumption) (fun _ _ => ?_))
    | (with_reducible refine o8_dR hE (by decide) (by assumption) (fun _ _ => ?_))
    | (with_reducible refine o8_nV hE (by decide) (by assumption) (fun _ _ => ?_))
    | (with_reducible refine o5_rd (fun _ => ?_)))
theorem n8_188_66 (hE : fE8 D) (o0 : Option Nat) (o1 : Option Nat) (h : rm_H) (z : nF5 Hz h) : oK5 Hz (b188_66 L xs zf D w o0 o1 h) := by
  unfold b188_66
  repeat' (first
    | with_reducible exact o5_dr (by assumption)
    | with_reducible exact o5_so (by assumption)
    | exact o5_none
    | with_reducible exact n8_188_112 hE _ (by assumption)
    | with_reducible refine o5_if ?_ ?_
    | (with_reducible refine o5_pF (by decide) (by assumption) (fun _ _ => ?_))
    | (with_reducible refine o5_sI (by assumption) (fun _ _ => ?_))
    | (with_reducible refine o5_sB (by assumption) (fun _ _ => ?_))
    | (with_reducible refine o5_sR (by assumption) (fun _ _ => ?_))
    | (with_reducible refine o8_nR (by assumption) (fun _ _ => ?_))
    | (with_reducible refine o5_nI (by assumption) (fun _ _ => ?_))
    | (with_reducible refine o5_cp (by assumption) (fun _ _ => ?_))
    | (with_reducible refine o5_cl (by assumption) (fun _ _ => ?_))
    | (with_reducible refine o5_ap (by decide) (by assumption) (fun _ _ => ?_))
    | (with_reducible refine o8_vI hE (by decide) (by assumption) (fun _ _ => ?_))
    | (with_reducible refine o8_vV hE (by decide) (by assumption) (fun _ _ => ?_))
    | (with_reducible refine o8_vR hE (by decide) (by assumption) (fun _ _ => ?_))
    | (with_reducible refine o8_dI hE (by decide) (by assumption) (fun _ _ => ?_))
    | (with_reducible refine o8_dV hE (by decide) (by assumption) (fun _ _ => ?_))
    | (with_reducible refine o8_dR hE (by decide) (by assumption) (fun _ _ => ?_))
    | (with_reducible refine o8_nV hE (by decide) (by assumption) (fun _ _ => ?_))
    | (with_reducible refine o5_rd (fun _ => ?_)))
theorem n8_188_78 (hE : fE8 D) (o0 : Option Nat) (o1 : Option Nat) (i2 : Int32) (i3 : Int32) (i4 : Int32) (h : rm_H) (z : nF5 Hz h) : oK5 Hz (b188_78 L xs zf D w o0 o1 i2 i3 i4 h) := by
  unfold b188_78
  repeat' (first
    | with_reducible exact o5_dr (by assumption)
    | with_reducible exact o5_so (by assumption)
    | exact o5_none
    | with_reducible exact n8_188_112 hE _ (by assumption)
    | with_reducible refine o5_if ?_ ?_
    | (with_reducible refine o5_pF (by decide) (by assumption) (fun _ _ => ?_))
    | (with_reducible refine o5_sI (by assumption) (fun _ _ => ?_))
    | (with_reducible refine o5_sB (by assumption) (fun _ _ => ?_))
    | (with_reducible refine o5_sR (by assumption) (fun _ _ => ?_))
    | (with_reducible refine o8_nR (by assumption) (fun _ _ => ?_))
    | (with_reducible refine o5_nI (by assumption) (fun _ _ => ?_))
    | (with_reducible refine o5_cp (by assumption) (fun _ _ => ?_))
    | (with_reducible refine o5_cl (by assumption) (fun _ _ => ?_))
    | (with_reducible refine o5_ap (by decide) (by assumption) (fun _ _ => ?_))
    | (with_reducible refine o8_vI hE (by decide) (by assumption) (fun _ _ => ?_))
    | (with_reducible refine o8_vV hE (by decide) (by assumption) (fun _ _ => ?_))
    | (with_reducible refine o8_vR hE (by decide) (by assumption) (fun _ _ => ?_))
    | (with_reducible refine o8_dI hE (by decide) (by assumption) (fun _ _ => ?_))
    | (with_reducible refine o8_dV hE (by decide) (by assumption) (fun _ _ => ?_))
    | (with_reducible refine o8_dR hE (by decide) (by assumption) (fun _ _ => ?_))
    | (with_reducible refine o8_nV hE (by decide) (by assumption) (fun _ _ => ?_))
    | (with_reducible refine o5_rd (fun _ => ?_)))
end N8B
