/-! blocks -/
section N5B
variable {L : Nat} {xs : Nat → Int32} {zf : Value} {D : dD} {w : Nat} {Hz : rm_H}
theorem n5_255_0 (hE : fE5 D) (o1 : Option Nat) (i2 : Int32) (h : rm_H) (z : nF5 Hz h) : oK5 Hz (b255_0 L xs zf D w o1 i2 h) := by
  unfold b255_0
  repeat' (first
    | with_reducible exact o5_dr (by assumption)
    | with_reducible exact o5_so (by assumption)
    | exact o5_none
    | with_reducible refine o5_if ?_ ?_
    | (with_reducible refine o5_pF (by decide) (by assumption) (fun _ _ => ?_))
    | (with_reducible refine o5_sI (by assumption) (fun _ _ => ?_))
    | (with_reducible refine o5_sB (by assumption) (fun _ _ => ?_))
    | (with_reducible refine o5_sR (by assumption) (fun _ _ => ?_))
    | (with_reducible refine o5_nI (by assumption) (fun _ _ => ?_))
    | (with_reducible refine o5_cp (by assumption) (fun _ _ => ?_))
    | (with_reducible refine o5_cl (by assumption) (fun _ _ => ?_))
    | (with_reducible refine o5_ap (by decide) (by assumption) (fun _ _ => ?_))
    | (with_reducible refine o5_vI hE (by decide) (by assumption) (fun _ _ => ?_))
    | (with_reducible refine o5_vV hE (by decide) (by assumption) (fun _ _ => ?_))
    | (with_reducible refine o5_vR hE (by decide) (by assumption) (fun _ _ => ?_))
    | (with_reducible refine o5_dI hE (by decide) (by assumption) (fun _ _ => ?_))
    | (with_reducible refine o5_dV hE (by decide) (by assumption) (fun _ _ => ?_))
    | (with_reducible refine o5_dR hE (by decide) (by assumption) (fun _ _ => ?_))
    | (with_reducible refine o5_nV hE (by decide) (by assumption) (fun _ _ => ?_))
    | (with_reducible refine o5_rd (fun _ => ?_)))
theorem n5_256_110 (hE : fE5 D) (h : rm_H) (z : nF5 Hz h) : oK5 Hz (b256_110 L xs zf D w h) := by
  unfold b256_110
  repeat' (first
    | with_reducible exact o5_dr (by assumption)
    | with_reducible exact o5_so (by assumption)
    | exact o5_none
    | with_reducible refine o5_if ?_ ?_
    | (with_reducible refine o5_pF (by decide) (by assumption) (fun _ _ => ?_))
    | (with_reducible refine o5_sI (by assumption) (fun _ _ => ?_))
    | (with_reducible refine o5_sB (by assumption) (fun _ _ => ?_))
    | (with_reducible refine o5_sR (by assumption) (fun _ _ => ?_))
    | (with_reducible refine o5_nI (by assumption) (fun _ _ => ?_))
    | (with_reducible refine o5_cp (by assumption) (fun _ _ => ?_))
    | (with_reducible refine o5_cl (by assumption) (fun _ _ => ?_))
    | (with_reducible refine o5_ap (by decide) (by assumption) (fun _ _ => ?_))
    | (with_reducible refine o5_vI hE (by decide) (by assumption) (fun _ _ => ?_))
    | (with_reducible refine o5_vV hE (by decide) (by assumption) (fun _ _ => ?_))
    | (with_reducible refine o5_vR hE (by decide) (by assumption) (fun _ _ => ?_))
    | (with_reducible refine o5_dI hE (by decide) (by assumption) (fun _ _ => ?_))
    | (with_reducible refine o5_dV hE (by decide) (by assumption) (fun _ _ => ?_))
    | (with_reducible refine o5_dR hE (by decide) (by assumption) (fun _ _ => ?_))
    | (with_reducible refine o5_nV hE (by decide) (by assumption) (fun _ _ => ?_))
    | (with_reducible refine o5_rd (fun _ => ?_)))
theorem n5_256_89 (hE : fE5 D) (s0 : Int32) (s1 : Option Nat) (h : rm_H) (z : nF5 Hz h) : oK5 Hz (b256_89 L xs zf D w s0 s1 h) := by
  unfold b256_89
  repeat' (first
    | with_reducible exact o5_dr (by assumption)
    | with_reducible exact o5_so (by assumption)
    | exact o5_none
    | with_reducible exact n5_256_110 hE _ (by assumption)
    | with_reducible refine o5_if ?_ ?_
    | (with_reducible refine o5_pF (by decide) (by assumption) (fun _ _ => ?_))
    | (with_reducible refine o5_sI (by assumption) (fun _ _ => ?_))
    | (with_reducible refine o5_sB (by assumption) (fun _ _ => ?_))
    | (with_reducible refine o5_sR (by assumption) (fun _ _ => ?_))
    | (with_reducible refine o5_nI (by assumption) (fun _ _ => ?_))
    | (with_reducible refine o5_cp (by assumption) (fun _ _ => ?_))
    | (with_reducible refine o5_cl (by assumption) (fun _ _ => ?_))
    | (with_reducible refine o5_ap (by decide) (by assumption) (fun _ _ => ?_))
    | (with_reducible refine o5_vI hE (by decide) (by assumption) (fun _ _ => ?_))
    | (with_reducible refine o5_vV hE (by decide) (by assumption) (fun _ _ => ?_))
    | (with_reducible refine o5_vR hE (by decide) (by assumption) (fun _ _ => ?_))
    | (with_reducible refine o5_dI hE (by decide) (by assumption) (fun _ _ => ?_))
    | (with_reducible refine o5_dV hE (by decide) (by assumption) (fun _ _ => ?_))
    | (with_reducible refine o5_dR hE (by decide) (by assumption) (fun _ _ => ?_))
    | (with_reducible refine o5_nV hE (by decide) (by assumption) (fun _ _ => ?_))
    | (with_reducible refine o5_rd (fun _ => ?_)))
theorem n5_256_107 (hE : fE5 D) (s0 : Int32) (s1 : Option Nat) (h : rm_H) (z : nF5 Hz h) : oK5 Hz (b256_107 L xs zf D w s0 s1 h) := by
  unfold b256_107
  repeat' (first
    | with_reducible exact o5_dr (by assumption)
    | with_reducible exact o5_so (by assumption)
    | exact o5_none
    | with_reducible exact n5_256_110 hE _ (by assumption)
    | with_reducible refine o5_if ?_ ?_
    | (with_reducible refine o5_pF (by decide) (by assumption) (fun _ _ => ?_))
    | (with_reducible refine o5_sI (by assumption) (fun _ _ => ?_))
    | (with_reducible refine o5_sB (by assumption) (fun _ _ => ?_))
    | (with_reducible refine o5_sR (by assumption) (fun _ _ => ?_))
    | (with_reducible refine o5_nI (by assumption) (fun _ _ => ?_))
    | (with_reducible refine o5_cp (by assumption) (fun _ _ => ?_))
    | (with_reducible refine o5_cl (by assumption) (fun _ _ => ?_))
    | (with_reducible refine o5_ap (by decide) (by assumption) (fun _ _ => ?_))
    | (with_reducible refine o5_vI hE (by decide) (by assumption) (fun _ _ => ?_))
    | (with_reducible refine o5_vV hE (by decide) (by assumption) (fun _ _ => ?_))
    | (with_reducible refine o5_vR hE (by decide) (by assumption) (fun _ _ => ?_))
    | (with_reducible refine o5_dI hE (by decide) (by assumption) (fun _ _ => ?_))
    | (with_reducible refine o5_dV hE (by decide) (by assumption) (fun _ _ => ?_))
    | (with_reducible refine o5_dR hE (by decide) (by assumption) (fun _ _ => ?_))
    | (with_reducible refine o5_nV hE (by decide) (by assumption) (fun _ _ => ?_))
    | (with_reducible refine o5_rd (fun _ => ?_)))
theorem n5_256_0 (hE : fE5 D) (o1 : Option Nat) (i2 : Int32) (h : rm_H) (z : nF5 Hz h) : oK5 Hz (b256_0 L xs zf D w o1 i2 h) := by
  unfold b256_0
  repeat' (first
    | with_reducible exact o5_dr (by assumption)
    | with_reducible exact o5_so (by assumption)
    | exact o5_none
    | with_reducible exact n5_256_107 hE _ _ _ (by assumption)
    | with_reducible exact n5_256_110 hE _ (by assumption)
    | with_reducible exact n5_256_89 hE _ _ _ (by assumption)
    | with_reducible refine o5_if ?_ ?_
    | (with_reducible refine o5_pF (by decide) (by assumption) (fun _ _ => ?_))
    | (with_reducible refine o5_sI (by assumption) (fun _ _ => ?_))
    | (with_reducible refine o5_sB (by assumption) (fun _ _ => ?_))
    | (with_reducible refine o5_sR (by assumption) (fun _ _ => ?_))
    | (with_reducible refine o5_nI (by assumption) (fun _ _ => ?_))
    | (with_reducible refine o5_cp (by assumption) (fun _ _ => ?_))
    | (with_reducible refine o5_cl (by assumption) (fun _ _ => ?_))
    | (with_reducible refine o5_ap (by decide) (by assumption) (fun _ _ => ?_))
    | (with_reducible refine o5_vI hE (by decide) (by assumption) (fun _ _ => ?_))
    | (with_reducible refine o5_vV hE (by decide) (by assumption) (fun _ _ => ?_))
    | (with_reducible refine o5_vR hE (by decide) (by assumption) (fun _ _ => ?_))
    | (with_reducible refine o5_dI hE (by decide) (by assumption) (fun _ _ => ?_))
    | (with_reducible refine o5_dV hE (by decide) (by assumption) (fun _ _ => ?_))
    | (with_reducible refine o5_dR hE (by decide) (by assumption) (fun _ _ => ?_))
    | (with_reducible refine o5_nV hE (by decide) (by assumption) (fun _ _ => ?_))
    | (with_reducible refine o5_rd (fun _ => ?_)))
theorem n5_257_38 (hE : fE5 D) (o0 : Option Nat) (h : rm_H) (z : nF5 Hz h) : oK5 Hz (b257_38 L xs zf D w o0 h) := by
  unfold b257_38
  repeat' (first
    | with_reducible exact o5_dr (by assumption)
    | with_reducible exact o5_so (by assumption)
    | exact o5_none
    | with_reducible refine o5_if ?_ ?_
    | (with_reducible refine o5_pF (by decide) (by assumption) (fun _ _ => ?_))
    | (with_reducible refine o5_sI (by assumption) (fun _ _ => ?_))
    | (with_reducible refine o5_sB (by assumption) (fun _ _ => ?_))
    | (with_reducible refine o5_sR (by assumption) (fun _ _ => ?_))
    | (with_reducible refine o5_nI (by assumption) (fun _ _ => ?_))
    | (with_reducible refine o5_cp (by assumption) (fun _ _ => ?_))
    | (with_reducible refine o5_cl (by assumption) (fun _ _ => ?_))
    | (with_reducible refine o5_ap (by decide) (by assumption) (fun _ _ => ?_))
    | (with_reducible refine o5_vI hE (by decide) (by assumption) (fun _ _ => ?_))
    | (with_reducible refine o5_vV hE (by decide) (by assumption) (fun _ _ => ?_))
    | (with_reducible refine o5_vR hE (by decide) (by assumption) (fun _ _ => ?_))
    | (with_reducible refine o5_dI hE (by decide) (by assumption) (fun _ _ => ?_))
    | (with_reducible refine o5_dV hE (by decide) (by assumption) (fun _ _ => ?_))
    | (with_reducible refine o5_dR hE (by decide) (by assumption) (fun _ _ => ?_))
    | (with_reducible refine o5_nV hE (by decide) (by assumption) (fun _ _ => ?_))
    | (with_reducible refine o5_rd (fun _ => ?_)))
theorem n5_257_0 (hE : fE5 D) (o0 : Option Nat) (o1 : Option Nat) (h : rm_H) (z : nF5 Hz h) : oK5 Hz (b257_0 L xs zf D w o0 o1 h) := by
  unfold b257_0
  repeat' (first
    | with_reducible exact o5_dr (by assumption)
    | with_reducible exact o5_so (by assumption)
    | exact o5_none
    | with_reducible exact n5_257_38 hE _ _ (by assumption)
    | with_reducible refine o5_if ?_ ?_
    | (with_reducible refine o5_pF (by decide) (by assumption) (fun _ _ => ?_))
    | (with_reducible refine o5_sI (by assumption) (fun _ _ => ?_))
    | (with_reducible refine o5_sB (by assumption) (fun _ _ => ?_))
    | (with_reducible refine o5_sR (by assumption) (fun _ _ => ?_))
    | (with_reducible refine o5_nI (by assumption) (fun _ _ => ?_))
    | (with_reducible refine o5_cp (by assumption) (fun _ _ => ?_))
    | (with_reducible refine o5_cl (by assumption) (fun _ _ => ?_))
    | (with_reducible refine o5_ap (by decide) (by assumption) (fun _ _ => ?_))
    | (with_reducible refine o5_vI hE (by decide) (by assumption) (fun _ _ => ?_))
    | (with_reducible refine o5_vV hE (by decide) (by assumption) (fun _ _ => ?_))
    | (with_reducible refine o5_vR hE (by decide) (by assumption) (fun _ _ => ?_))
    | (with_reducible refine o5_dI hE (by decide) (by assumption) (fun _ _ => ?_))
    | (with_reducible refine o5_dV hE (by decide) (by assumption) (fun _ _ => ?_))
    | (with_reducible refine o5_dR hE (by decide) (by assumption) (fun _ _ => ?_))
    | (with_reducible refine o5_nV hE (by decide) (by assumption) (fun _ _ => ?_))
    | (with_reducible refine o5_rd (fun _ => ?_)))
theorem n5_258_12 (hE : fE5 D) (h : rm_H) (z : nF5 Hz h) : oK5 Hz (b258_12 L xs zf D w h) := by
  unfold b258_12
  repeat' (first
    | with_reducible exact o5_dr (by assumption)
    | with_reducible exact o5_so (by assumption)
    | exact o5_none
    | with_reducible refine o5_if ?_ ?_
    | (with_reducible refine o5_pF (by decide) (by assumption) (fun _ _ => ?_))
    | (with_reducible refine o5_sI (by assumption) (fun _ _ => ?_))
    | (with_reducible refine o5_sB (by assumption) (fun _ _ => ?_))
    | (with_reducible refine o5_sR (by assumption) (fun _ _ => ?_))
    | (with_reducible refine o5_nI (by assumption) (fun _ _ => ?_))
    | (with_reducible refine o5_cp (by assumption) (fun _ _ => ?_))
    | (with_reducible refine o5_cl (by assumption) (fun _ _ => ?_))
    | (with_reducible refine o5_ap (by decide) (by assumption) (fun _ _ => ?_))
    | (with_reducible refine o5_vI hE (by decide) (by assumption) (fun _ _ => ?_))
    | (with_reducible refine o5_vV hE (by decide) (by assumption) (fun _ _ => ?_))
    | (with_reducible refine o5_vR hE (by decide) (by assumption) (fun _ _ => ?_))
    | (with_reducible refine o5_dI hE (by decide) (by assumption) (fun _ _ => ?_))
    | (with_reducible refine o5_dV hE (by decide) (by assumption) (fun _ _ => ?_))
    | (with_reducible refine o5_dR hE (by decide) (by assumption) (fun _ _ => ?_))
    | (with_reducible refine o5_nV hE (by decide) (by assumption) (fun _ _ => ?_))
    | (with_reducible refine o5_rd (fun _ => ?_)))
theorem n5_258_0 (hE : fE5 D) (o1 : Option Nat) (i2 : Int32) (h : rm_H) (z : nF5 Hz h) : oK5 Hz (b258_0 L xs zf D w o1 i2 h) := by
  unfold b258_0
  repeat' (first
    | with_reducible exact o5_dr (by assumption)
    | with_reducible exact o5_so (by assumption)
    | exact o5_none
    | with_reducible exact n5_258_12 hE _ (by assumption)
    | with_reducible refine o5_if ?_ ?_
    | (with_reducible refine o5_pF (by decide) (by assumption) (fun _ _ => ?_))
    | (with_reducible refine o5_sI (by assumption) (fun _ _ => ?_))
    | (with_reducible refine o5_sB (by assumption) (fun _ _ => ?_))
    | (with_reducible refine o5_sR (by assumption) (fun _ _ => ?_))
    | (with_reducible refine o5_nI (by assumption) (fun _ _ => ?_))
    | (with_reducible refine o5_cp (by assumption) (fun _ _ => ?_))
    | (with_reducible refine o5_cl (by assumption) (fun _ _ => ?_))
    | (with_reducible refine o5_ap (by decide) (by assumption) (fun _ _ => ?_))
    | (with_reducible refine o5_vI hE (by decide) (by assumption) (fun _ _ => ?_))
    | (with_reducible refine o5_vV hE (by decide) (by assumption) (fun _ _ => ?_))
    | (with_reducible refine o5_vR hE (by decide) (by assumption) (fun _ _ => ?_))
    | (with_reducible refine o5_dI hE (by decide) (by assumption) (fun _ _ => ?_))
    | (with_reducible refine o5_dV hE (by decide) (by assumption) (fun _ _ => ?_))
    | (with_reducible refine o5_dR hE (by decide) (by assumption) (fun _ _ => ?_))
    | (with_reducible refine o5_nV hE (by decide) (by assumption) (fun _ _ => ?_))
    | (with_reducible refine o5_rd (fun _ => ?_)))
theorem n5_259_47 (hE : fE5 D) (h : rm_H) (z : nF5 Hz h) : oK5 Hz (b259_47 L xs zf D w h) := by
  unfold b259_47
  repeat' (first
    | with_reducible exact o5_dr (by assumption)
    | with_reducible exact o5_so (by assumption)
    | exact o5_none
    | with_reducible refine o5_if ?_ ?_
    | (with_reducible refine o5_pF (by decide) (by assumption) (fun _ _ => ?_))
    | (with_reducible refine o5_sI (by assumption) (fun _ _ => ?_))
    | (with_reducible refine o5_sB (by assumption) (fun _ _ => ?_))
    | (with_reducible refine o5_sR (by assumption) (fun _ _ => ?_))
    | (with_reducible refine o5_nI (by assumption) (fun _ _ => ?_))
    | (with_reducible refine o5_cp (by assumption) (fun _ _ => ?_))
    | (with_reducible refine o5_cl (by assumption) (fun _ _ => ?_))
    | (with_reducible refine o5_ap (by decide) (by assumption) (fun _ _ => ?_))
    | (with_reducible refine o5_vI hE (by decide) (by assumption) (fun _ _ => ?_))
    | (with_reducible refine o5_vV hE (by decide) (by assumption) (fun _ _ => ?_))
    | (with_reducible refine o5_vR hE (by decide) (by assumption) (fun _ _ => ?_))
    | (with_reducible refine o5_dI hE (by decide) (by assumption) (fun _ _ => ?_))
    | (with_reducible refine o5_dV hE (by decide) (by assumption) (fun _ _ => ?_))
    | (with_reducible refine o5_dR hE (by decide) (by assumption) (fun _ _ => ?_))
    | (with_reducible refine o5_nV hE (by decide) (by assumption) (fun _ _ => ?_))
    | (with_reducible refine o5_rd (fun _ => ?_)))
theorem n5_259_0 (hE : fE5 D) (o0 : Option Nat) (i1 : Int32) (h : rm_H) (z : nF5 Hz h) : oK5 Hz (b259_0 L xs zf D w o0 i1 h) := by
  unfold b259_0
  repeat' (first
    | with_reducible exact o5_dr (by assumption)
    | with_reducible exact o5_so (by assumption)
    | exact o5_none
    | with_reducible exact n5_259_47 hE _ (by assumption)
    | with_reducible refine o5_if ?_ ?_
    | (with_reducible refine o5_pF (by decide) (by assumption) (fun _ _ => ?_))
    | (with_reducible refine o5_sI (by assumption) (fun _ _ => ?_))
    | (with_reducible refine o5_sB (by assumption) (fun _ _ => ?_))
    | (with_reducible refine o5_sR (by assumption) (fun _ _ => ?_))
    | (with_reducible refine o5_nI (by assumption) (fun _ _ => ?_))
    | (with_reducible refine o5_cp (by assumption) (fun _ _ => ?_))
    | (with_reducible refine o5_cl (by assumption) (fun _ _ => ?_))
    | (with_reducible refine o5_ap (by decide) (by assumption) (fun _ _ => ?_))
    | (with_reducible refine o5_vI hE (by decide) (by assumption) (fun _ _ => ?_))
    | (with_reducible refine o5_vV hE (by decide) (by assumption) (fun _ _ => ?_))
    | (with_reducible refine o5_vR hE (by decide) (by assumption) (fun _ _ => ?_))
    | (with_reducible refine o5_dI hE (by decide) (by assumption) (fun _ _ => ?_))
    | (with_reducible refine o5_dV hE (by decide) (by assumption) (fun _ _ => ?_))
    | (with_reducible refine o5_dR hE (by decide) (by assumption) (fun _ _ => ?_))
    | (with_reducible refine o5_nV hE (by decide) (by assumption) (fun _ _ => ?_))
    | (with_reducible refine o5_rd (fun _ => ?_)))
theorem n5_260_37 (hE : fE5 D) (h : rm_H) (z : nF5 Hz h) : oK5 Hz (b260_37 L xs zf D w h) := by
  unfold b260_37
  repeat' (first
    | with_reducible exact o5_dr (by assumption)
    | with_reducible exact o5_so (by assumption)
    | exact o5_none
    | with_reducible refine o5_if ?_ ?_
    | (with_reducible refine o5_pF (by decide) (by assumption) (fun _ _ => ?_))
    | (with_reducible refine o5_sI (by assumption) (fun _ _ => ?_))
    | (with_reducible refine o5_sB (by assumption) (fun _ _ => ?_))
    | (with_reducible refine o5_sR (by assumption) (fun _ _ => ?_))
    | (with_reducible refine o5_nI (by assumption) (fun _ _ => ?_))
    | (with_reducible refine o5_cp (by assumption) (fun _ _ => ?_))
    | (with_reducible refine o5_cl (by assumption) (fun _ _ => ?_))
    | (with_reducible refine o5_ap (by decide) (by assumption) (fun _ _ => ?_))
    | (with_reducible refine o5_vI hE (by decide) (by assumption) (fun _ _ => ?_))
    | (with_reducible refine o5_vV hE (by decide) (by assumption) (fun _ _ => ?_))
    | (with_reducible refine o5_vR hE (by decide) (by assumption) (fun _ _ => ?_))
    | (with_reducible refine o5_dI hE (by decide) (by assumption) (fun _ _ => ?_))
    | (with_reducible refine o5_dV hE (by decide) (by assumption) (fun _ _ => ?_))
    | (with_reducible refine o5_dR hE (by decide) (by assumption) (fun _ _ => ?_))
    | (with_reducible refine o5_nV hE (by decide) (by assumption) (fun _ _ => ?_))
    | (with_reducible refine o5_rd (fun _ => ?_)))
theorem n5_260_0 (hE : fE5 D) (o0 : Option Nat) (o1 : Option Nat) (o2 : Option Nat) (i3 : Int32) (h : rm_H) (z : nF5 Hz h) : oK5 Hz (b260_0 L xs zf D w o0 o1 o2 i3 h) := by
  unfold b260_0
  repeat' (first
    | with_reducible exact o5_dr (by assumption)
    | with_reducible exact o5_so (by assumption)
    | exact o5_none
    | with_reducible exact n5_260_37 hE _ (by assumption)
    | with_reducible refine o5_if ?_ ?_
    | (with_reducible refine o5_pF (by decide) (by assumption) (fun _ _ => ?_))
    | (with_reducible refine o5_sI (by assumption) (fun _ _ => ?_))
    | (with_reducible refine o5_sB (by assumption) (fun _ _ => ?_))
    | (with_reducible refine o5_sR (by assumption) (fun _ _ => ?_))
    | (with_reducible refine o5_nI (by assumption) (fun _ _ => ?_))
    | (with_reducible refine o5_cp (by assumption) (fun _ _ => ?_))
    | (with_reducible refine o5_cl (by assumption) (fun _ _ => ?_))
    | (with_reducible refine o5_ap (by decide) (by assumption) (fun _ _ => ?_))
    | (with_reducible refine o5_vI hE (by decide) (by assumption) (fun _ _ => ?_))
    | (with_reducible refine o5_vV hE (by decide) (by assumption) (fun _ _ => ?_))
    | (with_reducible refine o5_vR hE (by decide) (by assumption) (fun _ _ => ?_))
    | (with_reducible refine o5_dI hE (by decide) (by assumption) (fun _ _ => ?_))
    | (with_reducible refine o5_dV hE (by decide) (by assumption) (fun _ _ => ?_))
    | (with_reducible refine o5_dR hE (by decide) (by assumption) (fun _ _ => ?_))
    | (with_reducible refine o5_nV hE (by decide) (by assumption) (fun _ _ => ?_))
    | (with_reducible refine o5_rd (fun _ => ?_)))
theorem n5_261_0 (hE : fE5 D) (o0 : Option Nat) (o1 : Option Nat) (i2 : Int32) (h : rm_H) (z : nF5 Hz h) : oK5 Hz (b261_0 L xs zf D w o0 o1 i2 h) := by
  unfold b261_0
  repeat' (first
    | with_reducible exact o5_dr (by assumption)
    | with_reducible exact o5_so (by assumption)
    | exact o5_none
    | with_reducible refine o5_if ?_ ?_
    | (with_reducible refine o5_pF (by decide) (by assumption) (fun _ _ => ?_))
    | (with_reducible refine o5_sI (by assumption) (fun _ _ => ?_))
    | (with_reducible refine o5_sB (by assumption) (fun _ _ => ?_))
    | (with_reducible refine o5_sR (by assumption) (fun _ _ => ?_))
    | (with_reducible refine o5_nI (by assumption) (fun _ _ => ?_))
    | (with_reducible refine o5_cp (by assumption) (fun _ _ => ?_))
    | (with_reducible refine o5_cl (by assumption) (fun _ _ => ?_))
    | (with_reducible refine o5_ap (by decide) (by assumption) (fun _ _ => ?_))
    | (with_reducible refine o5_vI hE (by decide) (by assumption) (fun _ _ => ?_))
    | (with_reducible refine o5_vV hE (by decide) (by assumption) (fun _ _ => ?_))
    | (with_reducible refine o5_vR hE (by decide) (by assumption) (fun _ _ => ?_))
    | (with_reducible refine o5_dI hE (by decide) (by assumption) (fun _ _ => ?_))
    | (with_reducible refine o5_dV hE (by decide) (by assumption) (fun _ _ => ?_))
    | (with_reducible refine o5_dR hE (by decide) (by assumption) (fun _ _ => ?_))
    | (with_reducible refine o5_nV hE (by decide) (by assumption) (fun _ _ => ?_))
    | (with_reducible refine o5_rd (fun _ => ?_)))
theorem n5_262_46 (hE : fE5 D) (h : rm_H) (z : nF5 Hz h) : oK5 Hz (b262_46 L xs zf D w h) := by
  unfold b262_46
  repeat' (first
    | with_reducible exact o5_dr (by assumption)
    | with_reducible exact o5_so (by assumption)
    | exact o5_none
    | with_reducible refine o5_if ?_ ?_
    | (with_reducible refine o5_pF (by decide) (by assumption) (fun _ _ => ?_))
    | (with_reducible refine o5_sI (by assumption) (fun _ _ => ?_))
    | (with_reducible refine o5_sB (by assumption) (fun _ _ => ?_))
    | (with_reducible refine o5_sR (by assumption) (fun _ _ => ?_))
    | (with_reducible refine o5_nI (by assumption) (fun _ _ => ?_))
    | (with_reducible refine o5_cp (by assumption) (fun _ _ => ?_))
    | (with_reducible refine o5_cl (by assumption) (fun _ _ => ?_))
    | (with_reducible refine o5_ap (by decide) (by assumption) (fun _ _ => ?_))
    | (with_reducible refine o5_vI hE (by decide) (by assumption) (fun _ _ => ?_))
    | (with_reducible refine o5_vV hE (by decide) (by assumption) (fun _ _ => ?_))
    | (with_reducible refine o5_vR hE (by decide) (by assumption) (fun _ _ => ?_))
    | (with_reducible refine o5_dI hE (by decide) (by assumption) (fun _ _ => ?_))
    | (with_reducible refine o5_dV hE (by decide) (by assumption) (fun _ _ => ?_))
    | (with_reducible refine o5_dR hE (by decide) (by assumption) (fun _ _ => ?_))
    | (with_reducible refine o5_nV hE (by decide) (by assumption) (fun _ _ => ?_))
    | (with_reducible refine o5_rd (fun _ => ?_)))
theorem n5_262_0 (hE : fE5 D) (o0 : Option Nat) (o1 : Option Nat) (o2 : Option Nat) (h : rm_H) (z : nF5 Hz h) : oK5 Hz (b262_0 L xs zf D w o0 o1 o2 h) := by
  unfold b262_0
  repeat' (first
    | with_reducible exact o5_dr (by assumption)
    | with_reducible exact o5_so (by assumption)
    | exact o5_none
    | with_reducible exact n5_262_46 hE _ (by assumption)
    | with_reducible refine o5_if ?_ ?_
    | (with_reducible refine o5_pF (by decide) (by assumption) (fun _ _ => ?_))
    | (with_reducible refine o5_sI (by assumption) (fun _ _ => ?_))
    | (with_reducible refine o5_sB (by assumption) (fun _ _ => ?_))
    | (with_reducible refine o5_sR (by assumption) (fun _ _ => ?_))
    | (with_reducible refine o5_nI (by assumption) (fun _ _ => ?_))
    | (with_reducible refine o5_cp (by assumption) (fun _ _ => ?_))
    | (with_reducible refine o5_cl (by assumption) (fun _ _ => ?_))
    | (with_reducible refine o5_ap (by decide) (by assumption) (fun _ _ => ?_))
    | (with_reducible refine o5_vI hE (by decide) (by assumption) (fun _ _ => ?_))
    | (with_reducible refine o5_vV hE (by decide) (by assumption) (fun _ _ => ?_))
    | (with_reducible refine o5_vR hE (by decide) (by assumption) (fun _ _ => ?_))
    | (with_reducible refine o5_dI hE (by decide) (by assumption) (fun _ _ => ?_))
    | (with_reducible refine o5_dV hE (by decide) (by assumption) (fun _ _ => ?_))
    | (with_reducible refine o5_dR hE (by decide) (by assumption) (fun _ _ => ?_))
    | (with_reducible refine o5_nV hE (by decide) (by assumption) (fun _ _ => ?_))
    | (with_reducible refine o5_rd (fun _ => ?_)))
theorem n5_263_52 (hE : fE5 D) (o0 : Option Nat) (o1 : Option Nat) (h : rm_H) (z : nF5 Hz h) : oK5 Hz (b263_52 L xs zf D w o0 o1 h) := by
  unfold b263_52
  repeat' (first
    | with_reducible exact o5_dr (by assumption)
    | with_reducible exact o5_so (by assumption)
    | exact o5_none
    | with_reducible refine o5_if ?_ ?_
    | (with_reducible refine o5_pF (by decide) (by assumption) (fun _ _ => ?_))
    | (with_reducible refine o5_sI (by assumption) (fun _ _ => ?_))
    | (with_reducible refine o5_sB (by assumption) (fun _ _ => ?_))
    | (with_reducible refine o5_sR (by assumption) (fun _ _ => ?_))
    | (with_reducible refine o5_nI (by assumption) (fun _ _ => ?_))
    | (with_reducible refine o5_cp (by assumption) (fun _ _ => ?_))
    | (with_reducible refine o5_cl (by assumption) (fun _ _ => ?_))
    | (with_reducible refine o5_ap (by decide) (by assumption) (fun _ _ => ?_))
    | (with_reducible refine o5_vI hE (by decide) (by assumption) (fun _ _ => ?_))
    | (with_reducible refine o5_vV hE (by decide) (by assumption) (fun _ _ => ?_))
    | (with_reducible refine o5_vR hE (by decide) (by assumption) (fun _ _ => ?_))
    | (with_reducible refine o5_dI hE (by decide) (by assumption) (fun _ _ => ?_))
    | (with_reducible refine o5_dV hE (by decide) (by assumption) (fun _ _ => ?_))
    | (with_reducible refine o5_dR hE (by decide) (by assumption) (fun _ _ => ?_))
    | (with_reducible refine o5_nV hE (by decide) (by assumption) (fun _ _ => ?_))
    | (with_reducible refine o5_rd (fun _ => ?_)))
theorem n5_263_32 (hE : fE5 D) (o0 : Option Nat) (o1 : Option Nat) (o2 : Option Nat) (s0 : Int32) (h : rm_H) (z : nF5 Hz h) : oK5 Hz (b263_32 L xs zf D w o0 o1 o2 s0 h) := by
  unfold b263_32
  repeat' (first
    | with_reducible exact o5_dr (by assumption)
    | with_reducible exact o5_so (by assumption)
    | exact o5_none
    | with_reducible exact n5_263_52 hE _ _ _ (by assumption)
    | with_reducible refine o5_if ?_ ?_
    | (with_reducible refine o5_pF (by decide) (by assumption) (fun _ _ => ?_))
    | (with_reducible refine o5_sI (by assumption) (fun _ _ => ?_))
    | (with_reducible refine o5_sB (by assumption) (fun _ _ => ?_))
    | (with_reducible refine o5_sR (by assumption) (fun _ _ => ?_))
    | (with_reducible refine o5_nI (by assumption) (fun _ _ => ?_))
    | (with_reducible refine o5_cp (by assumption) (fun _ _ => ?_))
    | (with_reducible refine o5_cl (by assumption) (fun _ _ => ?_))
    | (with_reducible refine o5_ap (by decide) (by assumption) (fun _ _ => ?_))
    | (with_reducible refine o5_vI hE (by decide) (by assumption) (fun _ _ => ?_))
    | (with_reducible refine o5_vV hE (by decide) (by assumption) (fun _ _ => ?_))
    | (with_reducible refine o5_vR hE (by decide) (by assumption) (fun _ _ => ?_))
    | (with_reducible refine o5_dI hE (by decide) (by assumption) (fun _ _ => ?_))
    | (with_reducible refine o5_dV hE (by decide) (by assumption) (fun _ _ => ?_))
    | (with_reducible refine o5_dR hE (by decide) (by assumption) (fun _ _ => ?_))
    | (with_reducible refine o5_nV hE (by decide) (by assumption) (fun _ _ => ?_))
    | (with_reducible refine o5_rd (fun _ => ?_)))
theorem n5_263_0 (hE : fE5 D) (o0 : Option Nat) (o1 : Option Nat) (o2 : Option Nat) (h : rm_H) (z : nF5 Hz h) : oK5 Hz (b263_0 L xs zf D w o0 o1 o2 h) := by
  unfold b263_0
  repeat' (first
    | with_reducible exact o5_dr (by assumption)
    | with_reducible exact o5_so (by assumption)
    | exact o5_none
    | with_reducible exact n5_263_32 hE _ _ _ _ _ (by assumption)
    | with_reducible refine o5_if ?_ ?_
    | (with_reducible refine o5_pF (by decide) (by assumption) (fun _ _ => ?_))
    | (with_reducible refine o5_sI (by assumption) (fun _ _ => ?_))
    | (with_reducible refine o5_sB (by assumption) (fun _ _ => ?_))
    | (with_reducible refine o5_sR (by assumption) (fun _ _ => ?_))
    | (with_reducible refine o5_nI (by assumption) (fun _ _ => ?_))
    | (with_reducible refine o5_cp (by assumption) (fun _ _ => ?_))
    | (with_reducible refine o5_cl (by assumption) (fun _ _ => ?_))
    | (with_reducible refine o5_ap (by decide) (by assumption) (fun _ _ => ?_))
    | (with_reducible refine o5_vI hE (by decide) (by assumption) (fun _ _ => ?_))
    | (with_reducible refine o5_vV hE (by decide) (by assumption) (fun _ _ => ?_))
    | (with_reducible refine o5_vR hE (by decide) (by assumption) (fun _ _ => ?_))
    | (with_reducible refine o5_dI hE (by decide) (by assumption) (fun _ _ => ?_))
    | (with_reducible refine o5_dV hE (by decide) (by assumption) (fun _ _ => ?_))
    | (with_reducible refine o5_dR hE (by decide) (by assumption) (fun _ _ => ?_))
    | (with_reducible refine o5_nV hE (by decide) (by assumption) (fun _ _ => ?_))
    | (with_reducible refine o5_rd (fun _ => ?_)))
theorem n5_264_32 (hE : fE5 D) (o0 : Option Nat) (o1 : Option Nat) (o2 : Option Nat) (s0 : Int32) (h : rm_H) (z : nF5 Hz h) : oK5 Hz (b264_32 L xs zf D w o0 o1 o2 s0 h) := by
  unfold b264_32
  repeat' (first
    | with_reducible exact o5_dr (by assumption)
    | with_reducible exact o5_so (by assumption)
    | exact o5_none
    | with_reducible refine o5_if ?_ ?_
    | (with_reducible refine o5_pF (by decide) (by assumption) (fun _ _ => ?_))
    | (with_reducible refine o5_sI (by assumption) (fun _ _ => ?_))
    | (with_reducible refine o5_sB (by assumption) (fun _ _ => ?_))
    | (with_reducible refine o5_sR (by assumption) (fun _ _ => ?_))
    | (with_reducible refine o5_nI (by assumption) (fun _ _ => ?_))
    | (with_reducible refine o5_cp (by assumption) (fun _ _ => ?_))
    | (with_reducible refine o5_cl (by assumption) (fun _ _ => ?_))
    | (with_reducible refine o5_ap (by decide) (by assumption) (fun _ _ => ?_))
    | (with_reducible refine o5_vI hE (by decide) (by assumption) (fun _ _ => ?_))
    | (with_reducible refine o5_vV hE (by decide) (by assumption) (fun _ _ => ?_))
    | (with_reducible refine o5_vR hE (by decide) (by assumption) (fun _ _ => ?_))
    | (with_reducible refine o5_dI hE (by decide) (by assumption) (fun _ _ => ?_))
    | (with_reducible refine o5_dV hE (by decide) (by assumption) (fun _ _ => ?_))
    | (with_reducible refine o5_dR hE (by decide) (by assumption) (fun _ _ => ?_))
    | (with_reducible refine o5_nV hE (by decide) (by assumption) (fun _ _ => ?_))
    | (with_reducible refine o5_rd (fun _ => ?_)))
theorem n5_264_0 (hE : fE5 D) (o0 : Option Nat) (o1 : Option Nat) (o2 : Option Nat) (h : rm_H) (z : nF5 Hz h) : oK5 Hz (b264_0 L xs zf D w o0 o1 o2 h) := by
  unfold b264_0
  repeat' (first
    | with_reducible exact o5_dr (by assumption)
    | with_reducible exact o5_so (by assumption)
    | exact o5_none
    | with_reducible exact n5_264_32 hE _ _ _ _ _ (by assumption)
    | with_reducible refine o5_if ?_ ?_
    | (with_reducible refine o5_pF (by decide) (by assumption) (fun _ _ => ?_))
    | (with_reducible refine o5_sI (by assumption) (fun _ _ => ?_))
    | (with_reducible refine o5_sB (by assumption) (fun _ _ => ?_))
    | (with_reducible refine o5_sR (by assumption) (fun _ _ => ?_))
    | (with_reducible refine o5_nI (by assumption) (fun _ _ => ?_))
    | (with_reducible refine o5_cp (by assumption) (fun _ _ => ?_))
    | (with_reducible refine o5_cl (by assumption) (fun _ _ => ?_))
    | (with_reducible refine o5_ap (by decide) (by assumption) (fun _ _ => ?_))
    | (with_reducible refine o5_vI hE (by decide) (by assumption) (fun _ _ => ?_))
    | (with_reducible refine o5_vV hE (by decide) (by assumption) (fun _ _ => ?_))
    | (with_reducible refine o5_vR hE (by decide) (by assumption) (fun _ _ => ?_))
    | (with_reducible refine o5_dI hE (by decide) (by assumption) (fun _ _ => ?_))
    | (with_reducible refine o5_dV hE (by decide) (by assumption) (fun _ _ => ?_))
    | (with_reducible refine o5_dR hE (by decide) (by assumption) (fun _ _ => ?_))
    | (with_reducible refine o5_nV hE (by decide) (by assumption) (fun _ _ => ?_))
    | (with_reducible refine o5_rd (fun _ => ?_)))
theorem n5_265_73 (hE : fE5 D) (h : rm_H) (z : nF5 Hz h) : oK5 Hz (b265_73 L xs zf D w h) := by
  unfold b265_73
  repeat' (first
    | with_reducible exact o5_dr (by assumption)
    | with_reducible exact o5_so (by assumption)
    | exact o5_none
    | with_reducible refine o5_if ?_ ?_
    | (with_reducible refine o5_pF (by decide) (by assumption) (fun _ _ => ?_))
    | (with_reducible refine o5_sI (by assumption) (fun _ _ => ?_))
    | (with_reducible refine o5_sB (by assumption) (fun _ _ => ?_))
    | (with_reducible refine o5_sR (by assumption) (fun _ _ => ?_))
    | (with_reducible refine o5_nI (by assumption) (fun _ _ => ?_))
    | (with_reducible refine o5_cp (by assumption) (fun _ _ => ?_))
    | (with_reducible refine o5_cl (by assumption) (fun _ _ => ?_))
    | (with_reducible refine o5_ap (by decide) (by assumption) (fun _ _ => ?_))
    | (with_reducible refine o5_vI hE (by decide) (by assumption) (fun _ _ => ?_))
    | (with_reducible refine o5_vV hE (by decide) (by assumption) (fun _ _ => ?_))
    | (with_reducible refine o5_vR hE (by decide) (by assumption) (fun _ _ => ?_))
    | (with_reducible refine o5_dI hE (by decide) (by assumption) (fun _ _ => ?_))
    | (with_reducible refine o5_dV hE (by decide) (by assumption) (fun _ _ => ?_))
    | (with_reducible refine o5_dR hE (by decide) (by assumption) (fun _ _ => ?_))
    | (with_reducible refine o5_nV hE (by decide) (by assumption) (fun _ _ => ?_))
    | (with_reducible refine o5_rd (fun _ => ?_)))
theorem n5_265_123 (hE : fE5 D) (h : rm_H) (z : nF5 Hz h) : oK5 Hz (b265_123 L xs zf D w h) := by
  unfold b265_123
  repeat' (first
    | with_reducible exact o5_dr (by assumption)
    | with_reducible exact o5_so (by assumption)
    | exact o5_none
    | with_reducible refine o5_if ?_ ?_
    | (with_reducible refine o5_pF (by decide) (by assumption) (fun _ _ => ?_))
    | (with_reducible refine o5_sI (by assumption) (fun _ _ => ?_))
    | (with_reducible refine o5_sB (by assumption) (fun _ _ => ?_))
    | (with_reducible refine o5_sR (by assumption) (fun _ _ => ?_))
    | (with_reducible refine o5_nI (by assumption) (fun _ _ => ?_))
    | (with_reducible refine o5_cp (by assumption) (fun _ _ => ?_))
    | (with_reducible refine o5_cl (by assumption) (fun _ _ => ?_))
    | (with_reducible refine o5_ap (by decide) (by assumption) (fun _ _ => ?_))
    | (with_reducible refine o5_vI hE (by decide) (by assumption) (fun _ _ => ?_))
    | (with_reducible refine o5_vV hE (by decide) (by assumption) (fun _ _ => ?_))
    | (with_reducible refine o5_vR hE (by decide) (by assumption) (fun _ _ => ?_))
    | (with_reducible refine o5_dI hE (by decide) (by assumption) (fun _ _ => ?_))
    | (with_reducible refine o5_dV hE (by decide) (by assumption) (fun _ _ => ?_))
    | (with_reducible refine o5_dR hE (by decide) (by assumption) (fun _ _ => ?_))
    | (with_reducible refine o5_nV hE (by decide) (by assumption) (fun _ _ => ?_))
    | (with_reducible refine o5_rd (fun _ => ?_)))
theorem n5_265_52 (hE : fE5 D) (o0 : Option Nat) (o1 : Option Nat) (i2 : Int32) (i3 : Int32) (s0 : Int32) (h : rm_H) (z : nF5 Hz h) : oK5 Hz (b265_52 L xs zf D w o0 o1 i2 i3 s0 h) := by
  unfold b265_52
  repeat' (first
    | with_reducible exact o5_dr (by assumption)
    | with_reducible exact o5_so (by assumption)
    | exact o5_none
    | with_reducible exact n5_265_123 hE _ (by assumption)
    | with_reducible exact n5_265_73 hE _ (by assumption)
    | with_reducible refine o5_if ?_ ?_
    | (with_reducible refine o5_pF (by decide) (by assumption) (fun _ _ => ?_))
    | (with_reducible refine o5_sI (by assumption) (fun _ _ => ?_))
    | (with_reducible refine o5_sB (by assumption) (fun _ _ => ?_))
    | (with_reducible refine o5_sR (by assumption) (fun _ _ => ?_))
    | (with_reducible refine o5_nI (by assumption) (fun _ _ => ?_))
    | (with_reducible refine o5_cp (by assumption) (fun _ _ => ?_))
    | (with_reducible refine o5_cl (by assumption) (fun _ _ => ?_))
    | (with_reducible refine o5_ap (by decide) (by assumption) (fun _ _ => ?_))
    | (with_reducible refine o5_vI hE (by decide) (by assumption) (fun _ _ => ?_))
    | (with_reducible refine o5_vV hE (by decide) (by assumption) (fun _ _ => ?_))
    | (with_reducible refine o5_vR hE (by decide) (by assumption) (fun _ _ => ?_))
    | (with_reducible refine o5_dI hE (by decide) (by assumption) (fun _ _ => ?_))
    | (with_reducible refine o5_dV hE (by decide) (by assumption) (fun _ _ => ?_))
    | (with_reducible refine o5_dR hE (by decide) (by assumption) (fun _ _ => ?_))
    | (with_reducible refine o5_nV hE (by decide) (by assumption) (fun _ _ => ?_))
    | (with_reducible refine o5_rd (fun _ => ?_)))
end N5B
