/-! blocks -/
section N5B
variable {L : Nat} {xs : Nat → Int32} {zf : Value} {D : dD} {w : Nat} {Hz : rm_H}
theorem n5_265_12 (hE : fE5 D) (o0 : Option Nat) (o1 : Option Nat) (i2 : Int32) (i3 : Int32) (s0 : Int32) (h : rm_H) (z : nF5 Hz h) : oK5 Hz (b265_12 L xs zf D w o0 o1 i2 i3 s0 h) := by
  unfold b265_12
  repeat' (first
    | with_reducible exact o5_dr (by assumption)
    | with_reducible exact o5_so (by assumption)
    | exact o5_none
    | with_reducible exact n5_265_52 hE _ _ _ _ _ _ (by assumption)
    | with_reducible refine o5_if ?_ ?_
    | (with_reducible refine o5_pF (by decide) (by assumption) (fun _ _ => ?_))
    | (with_reducible refine o5_sI (by assumption) (fun _ _ => ?_))
    | (with_reducible refine o5_sB (by assumption) (fun _ _ => ?_))
    | (with_reducible refine o5_sR (by assumption) (fun _ _ => ?_))
    | (with_reducible refine o5_nI (by assumption) (fun _ _ => ?_))
    | (with_reducible refine o5_cp (by assumption) (fun _ _ => ?_))
    | (with_reducible refine o5_cl (by assumption) (fun _ _ => ?_))
    | (with_reducible refine o5_ap (by decide) (by assumption) (fun _ _ => ?_))
    | (with_reducible refine o5_vI hE (by decide) (by assumption) (fun _ _ => ?_))
    | (with_reducible refine o5_vV hE (by decide) (by assumption) (fun _ _ => ?_))
    | (with_reducible refine o5_vR hE (by decide) (by assumption) (fun _ _ => ?_))
    | (with_reducible refine o5_dI hE (by decide) (by assumption) (fun _ _ => ?_))
    | (with_reducible refine o5_dV hE (by decide) (by assumption) (fun _ _ => ?_))
    | (with_reducible refine o5_dR hE (by decide) (by assumption) (fun _ _ => ?_))
    | (with_reducible refine o5_nV hE (by decide) (by assumption) (fun _ _ => ?_))
    | (with_reducible refine o5_rd (fun _ => ?_)))
theorem n5_265_0 (hE : fE5 D) (o0 : Option Nat) (o1 : Option Nat) (i2 : Int32) (i3 : Int32) (h : rm_H) (z : nF5 Hz h) : oK5 Hz (b265_0 L xs zf D w o0 o1 i2 i3 h) := by
  unfold b265_0
  repeat' (first
    | with_reducible exact o5_dr (by assumption)
    | with_reducible exact o5_so (by assumption)
    | exact o5_none
    | with_reducible exact n5_265_12 hE _ _ _ _ _ _ (by assumption)
    | with_reducible refine o5_if ?_ ?_
    | (with_reducible refine o5_pF (by decide) (by assumption) (fun _ _ => ?_))
    | (with_reducible refine o5_sI (by assumption) (fun _ _ => ?_))
    | (with_reducible refine o5_sB (by assumption) (fun _ _ => ?_))
    | (with_reducible refine o5_sR (by assumption) (fun _ _ => ?_))
    | (with_reducible refine o5_nI (by assumption) (fun _ _ => ?_))
    | (with_reducible refine o5_cp (by assumption) (fun _ _ => ?_))
    | (with_reducible refine o5_cl (by assumption) (fun _ _ => ?_))
    | (with_reducible refine o5_ap (by decide) (by assumption) (fun _ _ => ?_))
    | (with_reducible refine o5_vI hE (by decide) (by assumption) (fun _ _ => ?_))
    | (with_reducible refine o5_vV hE (by decide) (by assumption) (fun _ _ => ?_))
    | (with_reducible refine o5_vR hE (by decide) (by assumption) (fun _ _ => ?_))
    | (with_reducible refine o5_dI hE (by decide) (by assumption) (fun _ _ => ?_))
    | (with_reducible refine o5_dV hE (by decide) (by assumption) (fun _ _ => ?_))
    | (with_reducible refine o5_dR hE (by decide) (by assumption) (fun _ _ => ?_))
    | (with_reducible refine o5_nV hE (by decide) (by assumption) (fun _ _ => ?_))
    | (with_reducible refine o5_rd (fun _ => ?_)))
theorem n5_266_25 (hE : fE5 D) (s0 : Int32) (h : rm_H) (z : nF5 Hz h) : oK5 Hz (b266_25 L xs zf D w s0 h) := by
  unfold b266_25
  repeat' (first
    | with_reducible exact o5_dr (by assumption)
    | with_reducible exact o5_so (by assumption)
    | exact o5_none
    | with_reducible refine o5_if ?_ ?_
    | (with_reducible refine o5_pF (by decide) (by assumption) (fun _ _ => ?_))
    | (with_reducible refine o5_sI (by assumption) (fun _ _ => ?_))
    | (with_reducible refine o5_sB (by assumption) (fun _ _ => ?_))
    | (with_reducible refine o5_sR (by assumption) (fun _ _ => ?_))
    | (with_reducible refine o5_nI (by assumption) (fun _ _ => ?_))
    | (with_reducible refine o5_cp (by assumption) (fun _ _ => ?_))
    | (with_reducible refine o5_cl (by assumption) (fun _ _ => ?_))
    | (with_reducible refine o5_ap (by decide) (by assumption) (fun _ _ => ?_))
    | (with_reducible refine o5_vI hE (by decide) (by assumption) (fun _ _ => ?_))
    | (with_reducible refine o5_vV hE (by decide) (by assumption) (fun _ _ => ?_))
    | (with_reducible refine o5_vR hE (by decide) (by assumption) (fun _ _ => ?_))
    | (with_reducible refine o5_dI hE (by decide) (by assumption) (fun _ _ => ?_))
    | (with_reducible refine o5_dV hE (by decide) (by assumption) (fun _ _ => ?_))
    | (with_reducible refine o5_dR hE (by decide) (by assumption) (fun _ _ => ?_))
    | (with_reducible refine o5_nV hE (by decide) (by assumption) (fun _ _ => ?_))
    | (with_reducible refine o5_rd (fun _ => ?_)))
theorem n5_266_13 (hE : fE5 D) (h : rm_H) (z : nF5 Hz h) : oK5 Hz (b266_13 L xs zf D w h) := by
  unfold b266_13
  repeat' (first
    | with_reducible exact o5_dr (by assumption)
    | with_reducible exact o5_so (by assumption)
    | exact o5_none
    | with_reducible exact n5_266_25 hE _ _ (by assumption)
    | with_reducible refine o5_if ?_ ?_
    | (with_reducible refine o5_pF (by decide) (by assumption) (fun _ _ => ?_))
    | (with_reducible refine o5_sI (by assumption) (fun _ _ => ?_))
    | (with_reducible refine o5_sB (by assumption) (fun _ _ => ?_))
    | (with_reducible refine o5_sR (by assumption) (fun _ _ => ?_))
    | (with_reducible refine o5_nI (by assumption) (fun _ _ => ?_))
    | (with_reducible refine o5_cp (by assumption) (fun _ _ => ?_))
    | (with_reducible refine o5_cl (by assumption) (fun _ _ => ?_))
    | (with_reducible refine o5_ap (by decide) (by assumption) (fun _ _ => ?_))
    | (with_reducible refine o5_vI hE (by decide) (by assumption) (fun _ _ => ?_))
    | (with_reducible refine o5_vV hE (by decide) (by assumption) (fun _ _ => ?_))
    | (with_reducible refine o5_vR hE (by decide) (by assumption) (fun _ _ => ?_))
    | (with_reducible refine o5_dI hE (by decide) (by assumption) (fun _ _ => ?_))
    | (with_reducible refine o5_dV hE (by decide) (by assumption) (fun _ _ => ?_))
    | (with_reducible refine o5_dR hE (by decide) (by assumption) (fun _ _ => ?_))
    | (with_reducible refine o5_nV hE (by decide) (by assumption) (fun _ _ => ?_))
    | (with_reducible refine o5_rd (fun _ => ?_)))
theorem n5_266_0 (hE : fE5 D) (o0 : Option Nat) (i1 : Int32) (h : rm_H) (z : nF5 Hz h) : oK5 Hz (b266_0 L xs zf D w o0 i1 h) := by
  unfold b266_0
  repeat' (first
    | with_reducible exact o5_dr (by assumption)
    | with_reducible exact o5_so (by assumption)
    | exact o5_none
    | with_reducible exact n5_266_13 hE _ (by assumption)
    | with_reducible exact n5_266_25 hE _ _ (by assumption)
    | with_reducible refine o5_if ?_ ?_
    | (with_reducible refine o5_pF (by decide) (by assumption) (fun _ _ => ?_))
    | (with_reducible refine o5_sI (by assumption) (fun _ _ => ?_))
    | (with_reducible refine o5_sB (by assumption) (fun _ _ => ?_))
    | (with_reducible refine o5_sR (by assumption) (fun _ _ => ?_))
    | (with_reducible refine o5_nI (by assumption) (fun _ _ => ?_))
    | (with_reducible refine o5_cp (by assumption) (fun _ _ => ?_))
    | (with_reducible refine o5_cl (by assumption) (fun _ _ => ?_))
    | (with_reducible refine o5_ap (by decide) (by assumption) (fun _ _ => ?_))
    | (with_reducible refine o5_vI hE (by decide) (by assumption) (fun _ _ => ?_))
    | (with_reducible refine o5_vV hE (by decide) (by assumption) (fun _ _ => ?_))
    | (with_reducible refine o5_vR hE (by decide) (by assumption) (fun _ _ => ?_))
    | (with_reducible refine o5_dI hE (by decide) (by assumption) (fun _ _ => ?_))
    | (with_reducible refine o5_dV hE (by decide) (by assumption) (fun _ _ => ?_))
    | (with_reducible refine o5_dR hE (by decide) (by assumption) (fun _ _ => ?_))
    | (with_reducible refine o5_nV hE (by decide) (by assumption) (fun _ _ => ?_))
    | (with_reducible refine o5_rd (fun _ => ?_)))
theorem n5_270_40 (hE : fE5 D) (h : rm_H) (z : nF5 Hz h) : oK5 Hz (b270_40 L xs zf D w h) := by
  unfold b270_40
  repeat' (first
    | with_reducible exact o5_dr (by assumption)
    | with_reducible exact o5_so (by assumption)
    | exact o5_none
    | with_reducible refine o5_if ?_ ?_
    | (with_reducible refine o5_pF (by decide) (by assumption) (fun _ _ => ?_))
    | (with_reducible refine o5_sI (by assumption) (fun _ _ => ?_))
    | (with_reducible refine o5_sB (by assumption) (fun _ _ => ?_))
    | (with_reducible refine o5_sR (by assumption) (fun _ _ => ?_))
    | (with_reducible refine o5_nI (by assumption) (fun _ _ => ?_))
    | (with_reducible refine o5_cp (by assumption) (fun _ _ => ?_))
    | (with_reducible refine o5_cl (by assumption) (fun _ _ => ?_))
    | (with_reducible refine o5_ap (by decide) (by assumption) (fun _ _ => ?_))
    | (with_reducible refine o5_vI hE (by decide) (by assumption) (fun _ _ => ?_))
    | (with_reducible refine o5_vV hE (by decide) (by assumption) (fun _ _ => ?_))
    | (with_reducible refine o5_vR hE (by decide) (by assumption) (fun _ _ => ?_))
    | (with_reducible refine o5_dI hE (by decide) (by assumption) (fun _ _ => ?_))
    | (with_reducible refine o5_dV hE (by decide) (by assumption) (fun _ _ => ?_))
    | (with_reducible refine o5_dR hE (by decide) (by assumption) (fun _ _ => ?_))
    | (with_reducible refine o5_nV hE (by decide) (by assumption) (fun _ _ => ?_))
    | (with_reducible refine o5_rd (fun _ => ?_)))
theorem n5_270_0 (hE : fE5 D) (o0 : Option Nat) (i1 : Int32) (i2 : Int32) (h : rm_H) (z : nF5 Hz h) : oK5 Hz (b270_0 L xs zf D w o0 i1 i2 h) := by
  unfold b270_0
  repeat' (first
    | with_reducible exact o5_dr (by assumption)
    | with_reducible exact o5_so (by assumption)
    | exact o5_none
    | with_reducible exact n5_270_40 hE _ (by assumption)
    | with_reducible refine o5_if ?_ ?_
    | (with_reducible refine o5_pF (by decide) (by assumption) (fun _ _ => ?_))
    | (with_reducible refine o5_sI (by assumption) (fun _ _ => ?_))
    | (with_reducible refine o5_sB (by assumption) (fun _ _ => ?_))
    | (with_reducible refine o5_sR (by assumption) (fun _ _ => ?_))
    | (with_reducible refine o5_nI (by assumption) (fun _ _ => ?_))
    | (with_reducible refine o5_cp (by assumption) (fun _ _ => ?_))
    | (with_reducible refine o5_cl (by assumption) (fun _ _ => ?_))
    | (with_reducible refine o5_ap (by decide) (by assumption) (fun _ _ => ?_))
    | (with_reducible refine o5_vI hE (by decide) (by assumption) (fun _ _ => ?_))
    | (with_reducible refine o5_vV hE (by decide) (by assumption) (fun _ _ => ?_))
    | (with_reducible refine o5_vR hE (by decide) (by assumption) (fun _ _ => ?_))
    | (with_reducible refine o5_dI hE (by decide) (by assumption) (fun _ _ => ?_))
    | (with_reducible refine o5_dV hE (by decide) (by assumption) (fun _ _ => ?_))
    | (with_reducible refine o5_dR hE (by decide) (by assumption) (fun _ _ => ?_))
    | (with_reducible refine o5_nV hE (by decide) (by assumption) (fun _ _ => ?_))
    | (with_reducible refine o5_rd (fun _ => ?_)))
theorem n5_271_63 (hE : fE5 D) (h : rm_H) (z : nF5 Hz h) : oK5 Hz (b271_63 L xs zf D w h) := by
  unfold b271_63
  repeat' (first
    | with_reducible exact o5_dr (by assumption)
    | with_reducible exact o5_so (by assumption)
    | exact o5_none
    | with_reducible refine o5_if ?_ ?_
    | (with_reducible refine o5_pF (by decide) (by assumption) (fun _ _ => ?_))
    | (with_reducible refine o5_sI (by assumption) (fun _ _ => ?_))
    | (with_reducible refine o5_sB (by assumption) (fun _ _ => ?_))
    | (with_reducible refine o5_sR (by assumption) (fun _ _ => ?_))
    | (with_reducible refine o5_nI (by assumption) (fun _ _ => ?_))
    | (with_reducible refine o5_cp (by assumption) (fun _ _ => ?_))
    | (with_reducible refine o5_cl (by assumption) (fun _ _ => ?_))
    | (with_reducible refine o5_ap (by decide) (by assumption) (fun _ _ => ?_))
    | (with_reducible refine o5_vI hE (by decide) (by assumption) (fun _ _ => ?_))
    | (with_reducible refine o5_vV hE (by decide) (by assumption) (fun _ _ => ?_))
    | (with_reducible refine o5_vR hE (by decide) (by assumption) (fun _ _ => ?_))
    | (with_reducible refine o5_dI hE (by decide) (by assumption) (fun _ _ => ?_))
    | (with_reducible refine o5_dV hE (by decide) (by assumption) (fun _ _ => ?_))
    | (with_reducible refine o5_dR hE (by decide) (by assumption) (fun _ _ => ?_))
    | (with_reducible refine o5_nV hE (by decide) (by assumption) (fun _ _ => ?_))
    | (with_reducible refine o5_rd (fun _ => ?_)))
theorem n5_271_0 (hE : fE5 D) (o0 : Option Nat) (o1 : Option Nat) (o2 : Option Nat) (i3 : Int32) (h : rm_H) (z : nF5 Hz h) : oK5 Hz (b271_0 L xs zf D w o0 o1 o2 i3 h) := by
  unfold b271_0
  repeat' (first
    | with_reducible exact o5_dr (by assumption)
    | with_reducible exact o5_so (by assumption)
    | exact o5_none
    | with_reducible exact n5_271_63 hE _ (by assumption)
    | with_reducible refine o5_if ?_ ?_
    | (with_reducible refine o5_pF (by decide) (by assumption) (fun _ _ => ?_))
    | (with_reducible refine o5_sI (by assumption) (fun _ _ => ?_))
    | (with_reducible refine o5_sB (by assumption) (fun _ _ => ?_))
    | (with_reducible refine o5_sR (by assumption) (fun _ _ => ?_))
    | (with_reducible refine o5_nI (by assumption) (fun _ _ => ?_))
    | (with_reducible refine o5_cp (by assumption) (fun _ _ => ?_))
    | (with_reducible refine o5_cl (by assumption) (fun _ _ => ?_))
    | (with_reducible refine o5_ap (by decide) (by assumption) (fun _ _ => ?_))
    | (with_reducible refine o5_vI hE (by decide) (by assumption) (fun _ _ => ?_))
    | (with_reducible refine o5_vV hE (by decide) (by assumption) (fun _ _ => ?_))
    | (with_reducible refine o5_vR hE (by decide) (by assumption) (fun _ _ => ?_))
    | (with_reducible refine o5_dI hE (by decide) (by assumption) (fun _ _ => ?_))
    | (with_reducible refine o5_dV hE (by decide) (by assumption) (fun _ _ => ?_))
    | (with_reducible refine o5_dR hE (by decide) (by assumption) (fun _ _ => ?_))
    | (with_reducible refine o5_nV hE (by decide) (by assumption) (fun _ _ => ?_))
    | (with_reducible refine o5_rd (fun _ => ?_)))
theorem n5_272_23 (hE : fE5 D) (s0 : Int32) (h : rm_H) (z : nF5 Hz h) : oK5 Hz (b272_23 L xs zf D w s0 h) := by
  unfold b272_23
  repeat' (first
    | with_reducible exact o5_dr (by assumption)
    | with_reducible exact o5_so (by assumption)
    | exact o5_none
    | with_reducible refine o5_if ?_ ?_
    | (with_reducible refine o5_pF (by decide) (by assumption) (fun _ _ => ?_))
    | (with_reducible refine o5_sI (by assumption) (fun _ _ => ?_))
    | (with_reducible refine o5_sB (by assumption) (fun _ _ => ?_))
    | (with_reducible refine o5_sR (by assumption) (fun _ _ => ?_))
    | (with_reducible refine o5_nI (by assumption) (fun _ _ => ?_))
    | (with_reducible refine o5_cp (by assumption) (fun _ _ => ?_))
    | (with_reducible refine o5_cl (by assumption) (fun _ _ => ?_))
    | (with_reducible refine o5_ap (by decide) (by assumption) (fun _ _ => ?_))
    | (with_reducible refine o5_vI hE (by decide) (by assumption) (fun _ _ => ?_))
    | (with_reducible refine o5_vV hE (by decide) (by assumption) (fun _ _ => ?_))
    | (with_reducible refine o5_vR hE (by decide) (by assumption) (fun _ _ => ?_))
    | (with_reducible refine o5_dI hE (by decide) (by assumption) (fun _ _ => ?_))
    | (with_reducible refine o5_dV hE (by decide) (by assumption) (fun _ _ => ?_))
    | (with_reducible refine o5_dR hE (by decide) (by assumption) (fun _ _ => ?_))
    | (with_reducible refine o5_nV hE (by decide) (by assumption) (fun _ _ => ?_))
    | (with_reducible refine o5_rd (fun _ => ?_)))
theorem n5_272_13 (hE : fE5 D) (h : rm_H) (z : nF5 Hz h) : oK5 Hz (b272_13 L xs zf D w h) := by
  unfold b272_13
  repeat' (first
    | with_reducible exact o5_dr (by assumption)
    | with_reducible exact o5_so (by assumption)
    | exact o5_none
    | with_reducible exact n5_272_23 hE _ _ (by assumption)
    | with_reducible refine o5_if ?_ ?_
    | (with_reducible refine o5_pF (by decide) (by assumption) (fun _ _ => ?_))
    | (with_reducible refine o5_sI (by assumption) (fun _ _ => ?_))
    | (with_reducible refine o5_sB (by assumption) (fun _ _ => ?_))
    | (with_reducible refine o5_sR (by assumption) (fun _ _ => ?_))
    | (with_reducible refine o5_nI (by assumption) (fun _ _ => ?_))
    | (with_reducible refine o5_cp (by assumption) (fun _ _ => ?_))
    | (with_reducible refine o5_cl (by assumption) (fun _ _ => ?_))
    | (with_reducible refine o5_ap (by decide) (by assumption) (fun _ _ => ?_))
    | (with_reducible refine o5_vI hE (by decide) (by assumption) (fun _ _ => ?_))
    | (with_reducible refine o5_vV hE (by decide) (by assumption) (fun _ _ => ?_))
    | (with_reducible refine o5_vR hE (by decide) (by assumption) (fun _ _ => ?_))
    | (with_reducible refine o5_dI hE (by decide) (by assumption) (fun _ _ => ?_))
    | (with_reducible refine o5_dV hE (by decide) (by assumption) (fun _ _ => ?_))
    | (with_reducible refine o5_dR hE (by decide) (by assumption) (fun _ _ => ?_))
    | (with_reducible refine o5_nV hE (by decide) (by assumption) (fun _ _ => ?_))
    | (with_reducible refine o5_rd (fun _ => ?_)))
theorem n5_272_0 (hE : fE5 D) (o0 : Option Nat) (i1 : Int32) (h : rm_H) (z : nF5 Hz h) : oK5 Hz (b272_0 L xs zf D w o0 i1 h) := by
  unfold b272_0
  repeat' (first
    | with_reducible exact o5_dr (by assumption)
    | with_reducible exact o5_so (by assumption)
    | exact o5_none
    | with_reducible exact n5_272_13 hE _ (by assumption)
    | with_reducible exact n5_272_23 hE _ _ (by assumption)
    | with_reducible refine o5_if ?_ ?_
    | (with_reducible refine o5_pF (by decide) (by assumption) (fun _ _ => ?_))
    | (with_reducible refine o5_sI (by assumption) (fun _ _ => ?_))
    | (with_reducible refine o5_sB (by assumption) (fun _ _ => ?_))
    | (with_reducible refine o5_sR (by assumption) (fun _ _ => ?_))
    | (with_reducible refine o5_nI (by assumption) (fun _ _ => ?_))
    | (with_reducible refine o5_cp (by assumption) (fun _ _ => ?_))
    | (with_reducible refine o5_cl (by assumption) (fun _ _ => ?_))
    | (with_reducible refine o5_ap (by decide) (by assumption) (fun _ _ => ?_))
    | (with_reducible refine o5_vI hE (by decide) (by assumption) (fun _ _ => ?_))
    | (with_reducible refine o5_vV hE (by decide) (by assumption) (fun _ _ => ?_))
    | (with_reducible refine o5_vR hE (by decide) (by assumption) (fun _ _ => ?_))
    | (with_reducible refine o5_dI hE (by decide) (by assumption) (fun _ _ => ?_))
    | (with_reducible refine o5_dV hE (by decide) (by assumption) (fun _ _ => ?_))
    | (with_reducible refine o5_dR hE (by decide) (by assumption) (fun _ _ => ?_))
    | (with_reducible refine o5_nV hE (by decide) (by assumption) (fun _ _ => ?_))
    | (with_reducible refine o5_rd (fun _ => ?_)))
theorem n5_273_197 (hE : fE5 D) {K15 : Option Nat → Option Nat → Int32 → rm_H → Option dR} (hK15 : ∀ (a0 : Option Nat) (a1 : Option Nat) (a2 : Int32) (h : rm_H), nF5 Hz h → oK5 Hz (K15 a0 a1 a2 h)) (o0 : Option Nat) (o1 : Option Nat) (i4 : Int32) (h : rm_H) (z : nF5 Hz h) : oK5 Hz (b273_197 L xs zf D w K15 o0 o1 i4 h) := by
  unfold b273_197
  repeat' (first
    | with_reducible exact o5_dr (by assumption)
    | with_reducible exact o5_so (by assumption)
    | exact o5_none
    | with_reducible exact hK15 _ _ _ _ (by assumption)
    | with_reducible refine o5_if ?_ ?_
    | (with_reducible refine o5_pF (by decide) (by assumption) (fun _ _ => ?_))
    | (with_reducible refine o5_sI (by assumption) (fun _ _ => ?_))
    | (with_reducible refine o5_sB (by assumption) (fun _ _ => ?_))
    | (with_reducible refine o5_sR (by assumption) (fun _ _ => ?_))
    | (with_reducible refine o5_nI (by assumption) (fun _ _ => ?_))
    | (with_reducible refine o5_cp (by assumption) (fun _ _ => ?_))
    | (with_reducible refine o5_cl (by assumption) (fun _ _ => ?_))
    | (with_reducible refine o5_ap (by decide) (by assumption) (fun _ _ => ?_))
    | (with_reducible refine o5_vI hE (by decide) (by assumption) (fun _ _ => ?_))
    | (with_reducible refine o5_vV hE (by decide) (by assumption) (fun _ _ => ?_))
    | (with_reducible refine o5_vR hE (by decide) (by assumption) (fun _ _ => ?_))
    | (with_reducible refine o5_dI hE (by decide) (by assumption) (fun _ _ => ?_))
    | (with_reducible refine o5_dV hE (by decide) (by assumption) (fun _ _ => ?_))
    | (with_reducible refine o5_dR hE (by decide) (by assumption) (fun _ _ => ?_))
    | (with_reducible refine o5_nV hE (by decide) (by assumption) (fun _ _ => ?_))
    | (with_reducible refine o5_rd (fun _ => ?_)))
theorem n5_273_97 (hE : fE5 D) {K15 : Option Nat → Option Nat → Int32 → rm_H → Option dR} (hK15 : ∀ (a0 : Option Nat) (a1 : Option Nat) (a2 : Int32) (h : rm_H), nF5 Hz h → oK5 Hz (K15 a0 a1 a2 h)) (o0 : Option Nat) (o1 : Option Nat) (i4 : Int32) (h : rm_H) (z : nF5 Hz h) : oK5 Hz (b273_97 L xs zf D w K15 o0 o1 i4 h) := by
  unfold b273_97
  repeat' (first
    | with_reducible exact o5_dr (by assumption)
    | with_reducible exact o5_so (by assumption)
    | exact o5_none
    | with_reducible exact n5_273_197 hE hK15 _ _ _ _ (by assumption)
    | with_reducible exact hK15 _ _ _ _ (by assumption)
    | with_reducible refine o5_if ?_ ?_
    | (with_reducible refine o5_pF (by decide) (by assumption) (fun _ _ => ?_))
    | (with_reducible refine o5_sI (by assumption) (fun _ _ => ?_))
    | (with_reducible refine o5_sB (by assumption) (fun _ _ => ?_))
    | (with_reducible refine o5_sR (by assumption) (fun _ _ => ?_))
    | (with_reducible refine o5_nI (by assumption) (fun _ _ => ?_))
    | (with_reducible refine o5_cp (by assumption) (fun _ _ => ?_))
    | (with_reducible refine o5_cl (by assumption) (fun _ _ => ?_))
    | (with_reducible refine o5_ap (by decide) (by assumption) (fun _ _ => ?_))
    | (with_reducible refine o5_vI hE (by decide) (by assumption) (fun _ _ => ?_))
    | (with_reducible refine o5_vV hE (by decide) (by assumption) (fun _ _ => ?_))
    | (with_reducible refine o5_vR hE (by decide) (by assumption) (fun _ _ => ?_))
    | (with_reducible refine o5_dI hE (by decide) (by assumption) (fun _ _ => ?_))
    | (with_reducible refine o5_dV hE (by decide) (by assumption) (fun _ _ => ?_))
    | (with_reducible refine o5_dR hE (by decide) (by assumption) (fun _ _ => ?_))
    | (with_reducible refine o5_nV hE (by decide) (by assumption) (fun _ _ => ?_))
    | (with_reducible refine o5_rd (fun _ => ?_)))
theorem n5_273_142 (hE : fE5 D) {K15 : Option Nat → Option Nat → Int32 → rm_H → Option dR} (hK15 : ∀ (a0 : Option Nat) (a1 : Option Nat) (a2 : Int32) (h : rm_H), nF5 Hz h → oK5 Hz (K15 a0 a1 a2 h)) (o0 : Option Nat) (o1 : Option Nat) (i4 : Int32) (i5 : Int32) (i6 : Int32) (o7 : Option Nat) (h : rm_H) (z : nF5 Hz h) : oK5 Hz (b273_142 L xs zf D w K15 o0 o1 i4 i5 i6 o7 h) := by
  unfold b273_142
  repeat' (first
    | with_reducible exact o5_dr (by assumption)
    | with_reducible exact o5_so (by assumption)
    | exact o5_none
    | with_reducible exact n5_273_197 hE hK15 _ _ _ _ (by assumption)
    | with_reducible exact hK15 _ _ _ _ (by assumption)
    | with_reducible refine o5_if ?_ ?_
    | (with_reducible refine o5_pF (by decide) (by assumption) (fun _ _ => ?_))
    | (with_reducible refine o5_sI (by assumption) (fun _ _ => ?_))
    | (with_reducible refine o5_sB (by assumption) (fun _ _ => ?_))
    | (with_reducible refine o5_sR (by assumption) (fun _ _ => ?_))
    | (with_reducible refine o5_nI (by assumption) (fun _ _ => ?_))
    | (with_reducible refine o5_cp (by assumption) (fun _ _ => ?_))
    | (with_reducible refine o5_cl (by assumption) (fun _ _ => ?_))
    | (with_reducible refine o5_ap (by decide) (by assumption) (fun _ _ => ?_))
    | (with_reducible refine o5_vI hE (by decide) (by assumption) (fun _ _ => ?_))
    | (with_reducible refine o5_vV hE (by decide) (by assumption) (fun _ _ => ?_))
    | (with_reducible refine o5_vR hE (by decide) (by assumption) (fun _ _ => ?_))
    | (with_reducible refine o5_dI hE (by decide) (by assumption) (fun _ _ => ?_))
    | (with_reducible refine o5_dV hE (by decide) (by assumption) (fun _ _ => ?_))
    | (with_reducible refine o5_dR hE (by decide) (by assumption) (fun _ _ => ?_))
    | (with_reducible refine o5_nV hE (by decide) (by assumption) (fun _ _ => ?_))
    | (with_reducible refine o5_rd (fun _ => ?_)))
theorem n5_273_203 (hE : fE5 D) (h : rm_H) (z : nF5 Hz h) : oK5 Hz (b273_203 L xs zf D w h) := by
  unfold b273_203
  repeat' (first
    | with_reducible exact o5_dr (by assumption)
    | with_reducible exact o5_so (by assumption)
    | exact o5_none
    | with_reducible refine o5_if ?_ ?_
    | (with_reducible refine o5_pF (by decide) (by assumption) (fun _ _ => ?_))
    | (with_reducible refine o5_sI (by assumption) (fun _ _ => ?_))
    | (with_reducible refine o5_sB (by assumption) (fun _ _ => ?_))
    | (with_reducible refine o5_sR (by assumption) (fun _ _ => ?_))
    | (with_reducible refine o5_nI (by assumption) (fun _ _ => ?_))
    | (with_reducible refine o5_cp (by assumption) (fun _ _ => ?_))
    | (with_reducible refine o5_cl (by assumption) (fun _ _ => ?_))
    | (with_reducible refine o5_ap (by decide) (by assumption) (fun _ _ => ?_))
    | (with_reducible refine o5_vI hE (by decide) (by assumption) (fun _ _ => ?_))
    | (with_reducible refine o5_vV hE (by decide) (by assumption) (fun _ _ => ?_))
    | (with_reducible refine o5_vR hE (by decide) (by assumption) (fun _ _ => ?_))
    | (with_reducible refine o5_dI hE (by decide) (by assumption) (fun _ _ => ?_))
    | (with_reducible refine o5_dV hE (by decide) (by assumption) (fun _ _ => ?_))
    | (with_reducible refine o5_dR hE (by decide) (by assumption) (fun _ _ => ?_))
    | (with_reducible refine o5_nV hE (by decide) (by assumption) (fun _ _ => ?_))
    | (with_reducible refine o5_rd (fun _ => ?_)))
theorem n5_273_15 (hE : fE5 D) : ∀ (n : Nat) (b0 : Option Nat) (b1 : Option Nat) (b2 : Int32) (h : rm_H), nF5 Hz h → oK5 Hz (b273_15 L xs zf D w n b0 b1 b2 h)
  | 0, _, _, _, _, _ => fun r s' e => by
    have e : (none : Option dR) = some (r, s') := e
    cases e
  | n + 1, b0, b1, b2, h, z => by
    have ih := n5_273_15 hE n
    unfold b273_15
    repeat' (first
      | with_reducible exact o5_dr (by assumption)
      | with_reducible exact o5_so (by assumption)
      | exact o5_none
      | with_reducible exact n5_273_142 hE ih _ _ _ _ _ _ _ (by assumption)
      | with_reducible exact n5_273_203 hE _ (by assumption)
      | with_reducible exact n5_273_97 hE ih _ _ _ _ (by assumption)
      | with_reducible exact ih _ _ _ _ (by assumption)
      | with_reducible refine o5_if ?_ ?_
      | (with_reducible refine o5_pF (by decide) (by assumption) (fun _ _ => ?_))
      | (with_reducible refine o5_sI (by assumption) (fun _ _ => ?_))
      | (with_reducible refine o5_sB (by assumption) (fun _ _ => ?_))
      | (with_reducible refine o5_sR (by assumption) (fun _ _ => ?_))
      | (with_reducible refine o5_nI (by assumption) (fun _ _ => ?_))
      | (with_reducible refine o5_cp (by assumption) (fun _ _ => ?_))
      | (with_reducible refine o5_cl (by assumption) (fun _ _ => ?_))
      | (with_reducible refine o5_ap (by decide) (by assumption) (fun _ _ => ?_))
      | (with_reducible refine o5_vI hE (by decide) (by assumption) (fun _ _ => ?_))
      | (with_reducible refine o5_vV hE (by decide) (by assumption) (fun _ _ => ?_))
      | (with_reducible refine o5_vR hE (by decide) (by assumption) (fun _ _ => ?_))
      | (with_reducible refine o5_dI hE (by decide) (by assumption) (fun _ _ => ?_))
      | (with_reducible refine o5_dV hE (by decide) (by assumption) (fun _ _ => ?_))
      | (with_reducible refine o5_dR hE (by decide) (by assumption) (fun _ _ => ?_))
      | (with_reducible refine o5_nV hE (by decide) (by assumption) (fun _ _ => ?_))
      | (with_reducible refine o5_rd (fun _ => ?_)))
theorem n5_273_0 (hE : fE5 D) (o0 : Option Nat) (o1 : Option Nat) (i2 : Int32) (i3 : Int32) (h : rm_H) (z : nF5 Hz h) : oK5 Hz (b273_0 L xs zf D w o0 o1 i2 i3 h) := by
  unfold b273_0
  repeat' (first
    | with_reducible exact o5_dr (by assumption)
    | with_reducible exact o5_so (by assumption)
    | exact o5_none
    | with_reducible exact n5_273_15 hE _ _ _ _ _ (by assumption)
    | with_reducible refine o5_if ?_ ?_
    | (with_reducible refine o5_pF (by decide) (by assumption) (fun _ _ => ?_))
    | (with_reducible refine o5_sI (by assumption) (fun _ _ => ?_))
    | (with_reducible refine o5_sB (by assumption) (fun _ _ => ?_))
    | (with_reducible refine o5_sR (by assumption) (fun _ _ => ?_))
    | (with_reducible refine o5_nI (by assumption) (fun _ _ => ?_))
    | (with_reducible refine o5_cp (by assumption) (fun _ _ => ?_))
    | (with_reducible refine o5_cl (by assumption) (fun _ _ => ?_))
    | (with_reducible refine o5_ap (by decide) (by assumption) (fun _ _ => ?_))
    | (with_reducible refine o5_vI hE (by decide) (by assumption) (fun _ _ => ?_))
    | (with_reducible refine o5_vV hE (by decide) (by assumption) (fun _ _ => ?_))
    | (with_reducible refine o5_vR hE (by decide) (by assumption) (fun _ _ => ?_))
    | (with_reducible refine o5_dI hE (by decide) (by assumption) (fun _ _ => ?_))
    | (with_reducible refine o5_dV hE (by decide) (by assumption) (fun _ _ => ?_))
    | (with_reducible refine o5_dR hE (by decide) (by assumption) (fun _ _ => ?_))
    | (with_reducible refine o5_nV hE (by decide) (by assumption) (fun _ _ => ?_))
    | (with_reducible refine o5_rd (fun _ => ?_)))
theorem n5_274_107 (hE : fE5 D) (h : rm_H) (z : nF5 Hz h) : oK5 Hz (b274_107 L xs zf D w h) := by
  unfold b274_107
  repeat' (first
    | with_reducible exact o5_dr (by assumption)
    | with_reducible exact o5_so (by assumption)
    | exact o5_none
    | with_reducible refine o5_if ?_ ?_
    | (with_reducible refine o5_pF (by decide) (by assumption) (fun _ _ => ?_))
    | (with_reducible refine o5_sI (by assumption) (fun _ _ => ?_))
    | (with_reducible refine o5_sB (by assumption) (fun _ _ => ?_))
    | (with_reducible refine o5_sR (by assumption) (fun _ _ => ?_))
    | (with_reducible refine o5_nI (by assumption) (fun _ _ => ?_))
    | (with_reducible refine o5_cp (by assumption) (fun _ _ => ?_))
    | (with_reducible refine o5_cl (by assumption) (fun _ _ => ?_))
    | (with_reducible refine o5_ap (by decide) (by assumption) (fun _ _ => ?_))
    | (with_reducible refine o5_vI hE (by decide) (by assumption) (fun _ _ => ?_))
    | (with_reducible refine o5_vV hE (by decide) (by assumption) (fun _ _ => ?_))
    | (with_reducible refine o5_vR hE (by decide) (by assumption) (fun _ _ => ?_))
    | (with_reducible refine o5_dI hE (by decide) (by assumption) (fun _ _ => ?_))
    | (with_reducible refine o5_dV hE (by decide) (by assumption) (fun _ _ => ?_))
    | (with_reducible refine o5_dR hE (by decide) (by assumption) (fun _ _ => ?_))
    | (with_reducible refine o5_nV hE (by decide) (by assumption) (fun _ _ => ?_))
    | (with_reducible refine o5_rd (fun _ => ?_)))
theorem n5_274_38 (hE : fE5 D) (o0 : Option Nat) (h : rm_H) (z : nF5 Hz h) : oK5 Hz (b274_38 L xs zf D w o0 h) := by
  unfold b274_38
  repeat' (first
    | with_reducible exact o5_dr (by assumption)
    | with_reducible exact o5_so (by assumption)
    | exact o5_none
    | with_reducible exact n5_274_107 hE _ (by assumption)
    | with_reducible refine o5_if ?_ ?_
    | (with_reducible refine o5_pF (by decide) (by assumption) (fun _ _ => ?_))
    | (with_reducible refine o5_sI (by assumption) (fun _ _ => ?_))
    | (with_reducible refine o5_sB (by assumption) (fun _ _ => ?_))
    | (with_reducible refine o5_sR (by assumption) (fun _ _ => ?_))
    | (with_reducible refine o5_nI (by assumption) (fun _ _ => ?_))
    | (with_reducible refine o5_cp (by assumption) (fun _ _ => ?_))
    | (with_reducible refine o5_cl (by assumption) (fun _ _ => ?_))
    | (with_reducible refine o5_ap (by decide) (by assumption) (fun _ _ => ?_))
    | (with_reducible refine o5_vI hE (by decide) (by assumption) (fun _ _ => ?_))
    | (with_reducible refine o5_vV hE (by decide) (by assumption) (fun _ _ => ?_))
    | (with_reducible refine o5_vR hE (by decide) (by assumption) (fun _ _ => ?_))
    | (with_reducible refine o5_dI hE (by decide) (by assumption) (fun _ _ => ?_))
    | (with_reducible refine o5_dV hE (by decide) (by assumption) (fun _ _ => ?_))
    | (with_reducible refine o5_dR hE (by decide) (by assumption) (fun _ _ => ?_))
    | (with_reducible refine o5_nV hE (by decide) (by assumption) (fun _ _ => ?_))
    | (with_reducible refine o5_rd (fun _ => ?_)))
theorem n5_274_91 (hE : fE5 D) (o0 : Option Nat) (i2 : Int32) (i3 : Int32) (s0 : Int32) (s1 : Option Nat) (h : rm_H) (z : nF5 Hz h) : oK5 Hz (b274_91 L xs zf D w o0 i2 i3 s0 s1 h) := by
  unfold b274_91
  repeat' (first
    | with_reducible exact o5_dr (by assumption)
    | with_reducible exact o5_so (by assumption)
    | exact o5_none
    | with_reducible exact n5_274_107 hE _ (by assumption)
    | with_reducible refine o5_if ?_ ?_
    | (with_reducible refine o5_pF (by decide) (by assumption) (fun _ _ => ?_))
    | (with_reducible refine o5_sI (by assumption) (fun _ _ => ?_))
    | (with_reducible refine o5_sB (by assumption) (fun _ _ => ?_))
    | (with_reducible refine o5_sR (by assumption) (fun _ _ => ?_))
    | (with_reducible refine o5_nI (by assumption) (fun _ _ => ?_))
    | (with_reducible refine o5_cp (by assumption) (fun _ _ => ?_))
    | (with_reducible refine o5_cl (by assumption) (fun _ _ => ?_))
    | (with_reducible refine o5_ap (by decide) (by assumption) (fun _ _ => ?_))
    | (with_reducible refine o5_vI hE (by decide) (by assumption) (fun _ _ => ?_))
    | (with_reducible refine o5_vV hE (by decide) (by assumption) (fun _ _ => ?_))
    | (with_reducible refine o5_vR hE (by decide) (by assumption) (fun _ _ => ?_))
    | (with_reducible refine o5_dI hE (by decide) (by assumption) (fun _ _ => ?_))
    | (with_reducible refine o5_dV hE (by decide) (by assumption) (fun _ _ => ?_))
    | (with_reducible refine o5_dR hE (by decide) (by assumption) (fun _ _ => ?_))
    | (with_reducible refine o5_nV hE (by decide) (by assumption) (fun _ _ => ?_))
    | (with_reducible refine o5_rd (fun _ => ?_)))
theorem n5_274_72 (hE : fE5 D) (o0 : Option Nat) (i2 : Int32) (i3 : Int32) (s0 : Int32) (s1 : Option Nat) (h : rm_H) (z : nF5 Hz h) : oK5 Hz (b274_72 L xs zf D w o0 i2 i3 s0 s1 h) := by
  unfold b274_72
  repeat' (first
    | with_reducible exact o5_dr (by assumption)
    | with_reducible exact o5_so (by assumption)
    | exact o5_none
    | with_reducible exact n5_274_91 hE _ _ _ _ _ _ (by assumption)
    | with_reducible refine o5_if ?_ ?_
    | (with_reducible refine o5_pF (by decide) (by assumption) (fun _ _ => ?_))
    | (with_reducible refine o5_sI (by assumption) (fun _ _ => ?_))
    | (with_reducible refine o5_sB (by assumption) (fun _ _ => ?_))
    | (with_reducible refine o5_sR (by assumption) (fun _ _ => ?_))
    | (with_reducible refine o5_nI (by assumption) (fun _ _ => ?_))
    | (with_reducible refine o5_cp (by assumption) (fun _ _ => ?_))
    | (with_reducible refine o5_cl (by assumption) (fun _ _ => ?_))
    | (with_reducible refine o5_ap (by decide) (by assumption) (fun _ _ => ?_))
    | (with_reducible refine o5_vI hE (by decide) (by assumption) (fun _ _ => ?_))
    | (with_reducible refine o5_vV hE (by decide) (by assumption) (fun _ _ => ?_))
    | (with_reducible refine o5_vR hE (by decide) (by assumption) (fun _ _ => ?_))
    | (with_reducible refine o5_dI hE (by decide) (by assumption) (fun _ _ => ?_))
    | (with_reducible refine o5_dV hE (by decide) (by assumption) (fun _ _ => ?_))
    | (with_reducible refine o5_dR hE (by decide) (by assumption) (fun _ _ => ?_))
    | (with_reducible refine o5_nV hE (by decide) (by assumption) (fun _ _ => ?_))
    | (with_reducible refine o5_rd (fun _ => ?_)))
theorem n5_274_0 (hE : fE5 D) (o0 : Option Nat) (o1 : Option Nat) (i2 : Int32) (i3 : Int32) (h : rm_H) (z : nF5 Hz h) : oK5 Hz (b274_0 L xs zf D w o0 o1 i2 i3 h) := by
  unfold b274_0
  repeat' (first
    | with_reducible exact o5_dr (by assumption)
    | with_reducible exact o5_so (by assumption)
    | exact o5_none
    | with_reducible exact n5_274_107 hE _ (by assumption)
    | with_reducible exact n5_274_38 hE _ _ (by assumption)
    | with_reducible exact n5_274_72 hE _ _ _ _ _ _ (by assumption)
    | with_reducible refine o5_if ?_ ?_
    | (with_reducible refine o5_pF (by decide) (by assumption) (fun _ _ => ?_))
    | (with_reducible refine o5_sI (by assumption) (fun _ _ => ?_))
    | (with_reducible refine o5_sB (by assumption) (fun _ _ => ?_))
    | (with_reducible refine o5_sR (by assumption) (fun _ _ => ?_))
    | (with_reducible refine o5_nI (by assumption) (fun _ _ => ?_))
    | (with_reducible refine o5_cp (by assumption) (fun _ _ => ?_))
    | (with_reducible refine o5_cl (by assumption) (fun _ _ => ?_))
    | (with_reducible refine o5_ap (by decide) (by assumption) (fun _ _ => ?_))
    | (with_reducible refine o5_vI hE (by decide) (by assumption) (fun _ _ => ?_))
    | (with_reducible refine o5_vV hE (by decide) (by assumption) (fun _ _ => ?_))
    | (with_reducible refine o5_vR hE (by decide) (by assumption) (fun _ _ => ?_))
    | (with_reducible refine o5_dI hE (by decide) (by assumption) (fun _ _ => ?_))
    | (with_reducible refine o5_dV hE (by decide) (by assumption) (fun _ _ => ?_))
    | (with_reducible refine o5_dR hE (by decide) (by assumption) (fun _ _ => ?_))
    | (with_reducible refine o5_nV hE (by decide) (by assumption) (fun _ _ => ?_))
    | (with_reducible refine o5_rd (fun _ => ?_)))
theorem n5_275_56 (hE : fE5 D) : ∀ (n : Nat) (b0 : Option Nat) (b1 : Int64) (b2 : Int64) (h : rm_H), nF5 Hz h → oK5 Hz (b275_56 L xs zf D w n b0 b1 b2 h)
  | 0, _, _, _, _, _ => fun r s' e => by
    have e : (none : Option dR) = some (r, s') := e
    cases e
  | n + 1, b0, b1, b2, h, z => by
    have ih := n5_275_56 hE n
    unfold b275_56
    repeat' (first
      | with_reducible exact o5_dr (by assumption)
      | with_reducible exact o5_so (by assumption)
      | exact o5_none
      | with_reducible exact ih _ _ _ _ (by assumption)
      | with_reducible refine o5_if ?_ ?_
      | (with_reducible refine o5_pF (by decide) (by assumption) (fun _ _ => ?_))
      | (with_reducible refine o5_sI (by assumption) (fun _ _ => ?_))
      | (with_reducible refine o5_sB (by assumption) (fun _ _ => ?_))
      | (with_reducible refine o5_sR (by assumption) (fun _ _ => ?_))
      | (with_reducible refine o5_nI (by assumption) (fun _ _ => ?_))
      | (with_reducible refine o5_cp (by assumption) (fun _ _ => ?_))
      | (with_reducible refine o5_cl (by assumption) (fun _ _ => ?_))
      | (with_reducible refine o5_ap (by decide) (by assumption) (fun _ _ => ?_))
      | (with_reducible refine o5_vI hE (by decide) (by assumption) (fun _ _ => ?_))
      | (with_reducible refine o5_vV hE (by decide) (by assumption) (fun _ _ => ?_))
      | (with_reducible refine o5_vR hE (by decide) (by assumption) (fun _ _ => ?_))
      | (with_reducible refine o5_dI hE (by decide) (by assumption) (fun _ _ => ?_))
      | (with_reducible refine o5_dV hE (by decide) (by assumption) (fun _ _ => ?_))
      | (with_reducible refine o5_dR hE (by decide) (by assumption) (fun _ _ => ?_))
      | (with_reducible refine o5_nV hE (by decide) (by assumption) (fun _ _ => ?_))
      | (with_reducible refine o5_rd (fun _ => ?_)))
end N5B
