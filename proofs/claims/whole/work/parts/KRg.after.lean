/-! blocks -/
section N8B
variable {L : Nat} {xs : Nat → Int32} {zf : Value} {D : dD} {w : Nat} {Hz : rm_H}
theorem n8_157_155 (hE : fE8 D) (s0 : Option Nat) (h : rm_H) (z : nF5 Hz h) : oK5 Hz (b157_155 L xs zf D w s0 h) := by
  unfold b157_155
  repeat' (first
    | with_reducible exact o5_dr (by assumption)
    | with_reducible exact o5_so (by assumption)
    | exact o5_none
    | with_reducible exact n8_157_160 hE _ _ _ (by assumption)
    | with_reducible refine o5_if ?_ ?_
    | (with_reducible refine o5_pF (by decide) (by assumption) (fun _ _ => ?_))
    | (with_reducible refine o5_sI (by assumption) (fun _ _ => ?_))
    | (with_reducible refine o5_sB (by assumption) (fun _ _ => ?_))
    | (with_reducible refine o5_sR (by assumption) (fun _ _ => ?_))
    | (with_reducible refine o8_nR (by assumption) (fun _ _ => ?_))
    | (with_reducible refine o5_nI (by assumption) (fun _ _ => ?_))
    | (with_reducible refine o5_cp (by assumption) (fun _ _ => ?_))
    | (with_reducible refine o5_cl (by assumption) (fun _ _ => ?_))
    | (with_reducible refine o5_ap (by decide) (by assumption) (fun _ _ => ?_))
    | (with_reducible refine o8_vI hE (by decide) (by assumption) (fun _ _ => ?_))
    | (with_reducible refine o8_vV hE (by decide) (by assumption) (fun _ _ => ?_))
    | (with_reducible refine o8_vR hE (by decide) (by assumption) (fun _ _ => ?_))
    | (with_reducible refine o8_dI hE (by decide) (by assumption) (fun _ _ => ?_))
    | (with_reducible refine o8_dV hE (by decide) (by assumption) (fun _ _ => ?_))
    | (with_reducible refine o8_dR hE (by decide) (by assumption) (fun _ _ => ?_))
    | (with_reducible refine o8_nV hE (by decide) (by assumption) (fun _ _ => ?_))
    | (with_reducible refine o5_rd (fun _ => ?_)))
theorem n8_157_159 (hE : fE8 D) (s0 : Option Nat) (h : rm_H) (z : nF5 Hz h) : oK5 Hz (b157_159 L xs zf D w s0 h) := by
  unfold b157_159
  repeat' (first
    | with_reducible exact o5_dr (by assumption)
    | with_reducible exact o5_so (by assumption)
    | exact o5_none
    | with_reducible exact n8_157_160 hE _ _ _ (by assumption)
    | with_reducible refine o5_if ?_ ?_
    | (with_reducible refine o5_pF (by decide) (by assumption) (fun _ _ => ?_))
    | (with_reducible refine o5_sI (by assumption) (fun _ _ => ?_))
    | (with_reducible refine o5_sB (by assumption) (fun _ _ => ?_))
    | (with_reducible refine o5_sR (by assumption) (fun _ _ => ?_))
    | (with_reducible refine o8_nR (by assumption) (fun _ _ => ?_))
    | (with_reducible refine o5_nI (by assumption) (fun _ _ => ?_))
    | (with_reducible refine o5_cp (by assumption) (fun _ _ => ?_))
    | (with_reducible refine o5_cl (by assumption) (fun _ _ => ?_))
    | (with_reducible refine o5_ap (by decide) (by assumption) (fun _ _ => ?_))
    | (with_reducible refine o8_vI hE (by decide) (by assumption) (fun _ _ => ?_))
    | (with_reducible refine o8_vV hE (by decide) (by assumption) (fun _ _ => ?_))
    | (with_reducible refine o8_vR hE (by decide) (by assumption) (fun _ _ => ?_))
    | (with_reducible refine o8_dI hE (by decide) (by assumption) (fun _ _ => ?_))
    | (with_reducible refine o8_dV hE (by decide) (by assumption) (fun _ _ => ?_))
    | (with_reducible refine o8_dR hE (by decide) (by assumption) (fun _ _ => ?_))
    | (with_reducible refine o8_nV hE (by decide) (by assumption) (fun _ _ => ?_))
    | (with_reducible refine o5_rd (fun _ => ?_)))
theorem n8_157_47 (hE : fE8 D) : ∀ (n : Nat) (b0 : Option Nat) (b1 : Option Nat) (b2 : Int32) (b3 : Int32) (h : rm_H), nF5 Hz h → oK5 Hz (b157_47 L xs zf D w n b0 b1 b2 b3 h)
  | 0, _, _, _, _, _, _ => fun r s' e => by
    have e : (none : Option dR) = some (r, s') := e
    cases e
  | n + 1, b0, b1, b2, b3, h, z => by
    have ih := n8_157_47 hE n
    unfold b157_47
    repeat' (first
      | with_reducible exact o5_dr (by assumption)
      | with_reducible exact o5_so (by assumption)
      | exact o5_none
      | with_reducible exact n8_157_121 hE ih _ _ _ _ _ (by assumption)
      | with_reducible exact n8_157_155 hE _ _ (by assumption)
      | with_reducible exact n8_157_159 hE _ _ (by assumption)
      | with_reducible exact ih _ _ _ _ _ (by assumption)
      | with_reducible refine o5_if ?_ ?_
      | (with_reducible refine o5_pF (by decide) (by assumption) (fun _ _ => ?_))
      | (with_reducible refine o5_sI (by assumption) (fun _ _ => ?_))
      | (with_reducible refine o5_sB (by assumption) (fun _ _ => ?_))
      | (with_reducible refine o5_sR (by assumption) (fun _ _ => ?_))
      | (with_reducible refine o8_nR (by assumption) (fun _ _ => ?_))
      | (with_reducible refine o5_nI (by assumption) (fun _ _ => ?_))
      | (with_reducible refine o5_cp (by assumption) (fun _ _ => ?_))
      | (with_reducible refine o5_cl (by assumption) (fun _ _ => ?_))
      | (with_reducible refine o5_ap (by decide) (by assumption) (fun _ _ => ?_))
      | (with_reducible refine o8_vI hE (by decide) (by assumption) (fun _ _ => ?_))
      | (with_reducible refine o8_vV hE (by decide) (by assumption) (fun _ _ => ?_))
      | (with_reducible refine o8_vR hE (by decide) (by assumption) (fun _ _ => ?_))
      | (with_reducible refine o8_dI hE (by decide) (by assumption) (fun _ _ => ?_))
      | (with_reducible refine o8_dV hE (by decide) (by assumption) (fun _ _ => ?_))
      | (with_reducible refine o8_dR hE (by decide) (by assumption) (fun _ _ => ?_))
      | (with_reducible refine o8_nV hE (by decide) (by assumption) (fun _ _ => ?_))
      | (with_reducible refine o5_rd (fun _ => ?_)))
theorem n8_157_45 (hE : fE8 D) (o0 : Option Nat) (o1 : Option Nat) (i2 : Int32) (h : rm_H) (z : nF5 Hz h) : oK5 Hz (b157_45 L xs zf D w o0 o1 i2 h) := by
  unfold b157_45
  repeat' (first
    | with_reducible exact o5_dr (by assumption)
    | with_reducible exact o5_so (by assumption)
    | exact o5_none
    | with_reducible exact n8_157_47 hE _ _ _ _ _ _ (by assumption)
    | with_reducible refine o5_if ?_ ?_
    | (with_reducible refine o5_pF (by decide) (by assumption) (fun _ _ => ?_))
    | (with_reducible refine o5_sI (by assumption) (fun _ _ => ?_))
    | (with_reducible refine o5_sB (by assumption) (fun _ _ => ?_))
    | (with_reducible refine o5_sR (by assumption) (fun _ _ => ?_))
    | (with_reducible refine o8_nR (by assumption) (fun _ _ => ?_))
    | (with_reducible refine o5_nI (by assumption) (fun _ _ => ?_))
    | (with_reducible refine o5_cp (by assumption) (fun _ _ => ?_))
    | (with_reducible refine o5_cl (by assumption) (fun _ _ => ?_))
    | (with_reducible refine o5_ap (by decide) (by assumption) (fun _ _ => ?_))
    | (with_reducible refine o8_vI hE (by decide) (by assumption) (fun _ _ => ?_))
    | (with_reducible refine o8_vV hE (by decide) (by assumption) (fun _ _ => ?_))
    | (with_reducible refine o8_vR hE (by decide) (by assumption) (fun _ _ => ?_))
    | (with_reducible refine o8_dI hE (by decide) (by assumption) (fun _ _ => ?_))
    | (with_reducible refine o8_dV hE (by decide) (by assumption) (fun _ _ => ?_))
    | (with_reducible refine o8_dR hE (by decide) (by assumption) (fun _ _ => ?_))
    | (with_reducible refine o8_nV hE (by decide) (by assumption) (fun _ _ => ?_))
    | (with_reducible refine o5_rd (fun _ => ?_)))
theorem n8_157_0 (hE : fE8 D) (o0 : Option Nat) (o1 : Option Nat) (h : rm_H) (z : nF5 Hz h) : oK5 Hz (b157_0 L xs zf D w o0 o1 h) := by
  unfold b157_0
  repeat' (first
    | with_reducible exact o5_dr (by assumption)
    | with_reducible exact o5_so (by assumption)
    | exact o5_none
    | with_reducible exact n8_157_45 hE _ _ _ _ (by assumption)
    | with_reducible refine o5_if ?_ ?_
    | (with_reducible refine o5_pF (by decide) (by assumption) (fun _ _ => ?_))
    | (with_reducible refine o5_sI (by assumption) (fun _ _ => ?_))
    | (with_reducible refine o5_sB (by assumption) (fun _ _ => ?_))
    | (with_reducible refine o5_sR (by assumption) (fun _ _ => ?_))
    | (with_reducible refine o8_nR (by assumption) (fun _ _ => ?_))
    | (with_reducible refine o5_nI (by assumption) (fun _ _ => ?_))
    | (with_reducible refine o5_cp (by assumption) (fun _ _ => ?_))
    | (with_reducible refine o5_cl (by assumption) (fun _ _ => ?_))
    | (with_reducible refine o5_ap (by decide) (by assumption) (fun _ _ => ?_))
    | (with_reducible refine o8_vI hE (by decide) (by assumption) (fun _ _ => ?_))
    | (with_reducible refine o8_vV hE (by decide) (by assumption) (fun _ _ => ?_))
    | (with_reducible refine o8_vR hE (by decide) (by assumption) (fun _ _ => ?_))
    | (with_reducible refine o8_dI hE (by decide) (by assumption) (fun _ _ => ?_))
    | (with_reducible refine o8_dV hE (by decide) (by assumption) (fun _ _ => ?_))
    | (with_reducible refine o8_dR hE (by decide) (by assumption) (fun _ _ => ?_))
    | (with_reducible refine o8_nV hE (by decide) (by assumption) (fun _ _ => ?_))
    | (with_reducible refine o5_rd (fun _ => ?_)))
theorem n8_158_30 (hE : fE8 D) (s0 : Int32) (h : rm_H) (z : nF5 Hz h) : oK5 Hz (b158_30 L xs zf D w s0 h) := by
  unfold b158_30
  repeat' (first
    | with_reducible exact o5_dr (by assumption)
    | with_reducible exact o5_so (by assumption)
    | exact o5_none
    | with_reducible refine o5_if ?_ ?_
    | (with_reducible refine o5_pF (by decide) (by assumption) (fun _ _ => ?_))
    | (with_reducible refine o5_sI (by assumption) (fun _ _ => ?_))
    | (with_reducible refine o5_sB (by assumption) (fun _ _ => ?_))
    | (with_reducible refine o5_sR (by assumption) (fun _ _ => ?_))
    | (with_reducible refine o8_nR (by assumption) (fun _ _ => ?_))
    | (with_reducible refine o5_nI (by assumption) (fun _ _ => ?_))
    | (with_reducible refine o5_cp (by assumption) (fun _ _ => ?_))
    | (with_reducible refine o5_cl (by assumption) (fun _ _ => ?_))
    | (with_reducible refine o5_ap (by decide) (by assumption) (fun _ _ => ?_))
    | (with_reducible refine o8_vI hE (by decide) (by assumption) (fun _ _ => ?_))
    | (with_reducible refine o8_vV hE (by decide) (by assumption) (fun _ _ => ?_))
    | (with_reducible refine o8_vR hE (by decide) (by assumption) (fun _ _ => ?_))
    | (with_reducible refine o8_dI hE (by decide) (by assumption) (fun _ _ => ?_))
    | (with_reducible refine o8_dV hE (by decide) (by assumption) (fun _ _ => ?_))
    | (with_reducible refine o8_dR hE (by decide) (by assumption) (fun _ _ => ?_))
    | (with_reducible refine o8_nV hE (by decide) (by assumption) (fun _ _ => ?_))
    | (with_reducible refine o5_rd (fun _ => ?_)))
theorem n8_158_25 (hE : fE8 D) (h : rm_H) (z : nF5 Hz h) : oK5 Hz (b158_25 L xs zf D w h) := by
  unfold b158_25
  repeat' (first
    | with_reducible exact o5_dr (by assumption)
    | with_reducible exact o5_so (by assumption)
    | exact o5_none
    | with_reducible exact n8_158_30 hE _ _ (by assumption)
    | with_reducible refine o5_if ?_ ?_
    | (with_reducible refine o5_pF (by decide) (by assumption) (fun _ _ => ?_))
    | (with_reducible refine o5_sI (by assumption) (fun _ _ => ?_))
    | (with_reducible refine o5_sB (by assumption) (fun _ _ => ?_))
    | (with_reducible refine o5_sR (by assumption) (fun _ _ => ?_))
    | (with_reducible refine o8_nR (by assumption) (fun _ _ => ?_))
    | (with_reducible refine o5_nI (by assumption) (fun _ _ => ?_))
    | (with_reducible refine o5_cp (by assumption) (fun _ _ => ?_))
    | (with_reducible refine o5_cl (by assumption) (fun _ _ => ?_))
    | (with_reducible refine o5_ap (by decide) (by assumption) (fun _ _ => ?_))
    | (with_reducible refine o8_vI hE (by decide) (by assumption) (fun _ _ => ?_))
    | (with_reducible refine o8_vV hE (by decide) (by assumption) (fun _ _ => ?_))
    | (with_reducible refine o8_vR hE (by decide) (by assumption) (fun _ _ => ?_))
    | (with_reducible refine o8_dI hE (by decide) (by assumption) (fun _ _ => ?_))
    | (with_reducible refine o8_dV hE (by decide) (by assumption) (fun _ _ => ?_))
    | (with_reducible refine o8_dR hE (by decide) (by assumption) (fun _ _ => ?_))
    | (with_reducible refine o8_nV hE (by decide) (by assumption) (fun _ _ => ?_))
    | (with_reducible refine o5_rd (fun _ => ?_)))
theorem n8_158_46 (hE : fE8 D) (s0 : Int32) (h : rm_H) (z : nF5 Hz h) : oK5 Hz (b158_46 L xs zf D w s0 h) := by
  unfold b158_46
  repeat' (first
    | with_reducible exact o5_dr (by assumption)
    | with_reducible exact o5_so (by assumption)
    | exact o5_none
    | with_reducible refine o5_if ?_ ?_
    | (with_reducible refine o5_pF (by decide) (by assumption) (fun _ _ => ?_))
    | (with_reducible refine o5_sI (by assumption) (fun _ _ => ?_))
    | (with_reducible refine o5_sB (by assumption) (fun _ _ => ?_))
    | (with_reducible refine o5_sR (by assumption) (fun _ _ => ?_))
    | (with_reducible refine o8_nR (by assumption) (fun _ _ => ?_))
    | (with_reducible refine o5_nI (by assumption) (fun _ _ => ?_))
    | (with_reducible refine o5_cp (by assumption) (fun _ _ => ?_))
    | (with_reducible refine o5_cl (by assumption) (fun _ _ => ?_))
    | (with_reducible refine o5_ap (by decide) (by assumption) (fun _ _ => ?_))
    | (with_reducible refine o8_vI hE (by decide) (by assumption) (fun _ _ => ?_))
    | (with_reducible refine o8_vV hE (by decide) (by assumption) (fun _ _ => ?_))
    | (with_reducible refine o8_vR hE (by decide) (by assumption) (fun _ _ => ?_))
    | (with_reducible refine o8_dI hE (by decide) (by assumption) (fun _ _ => ?_))
    | (with_reducible refine o8_dV hE (by decide) (by assumption) (fun _ _ => ?_))
    | (with_reducible refine o8_dR hE (by decide) (by assumption) (fun _ _ => ?_))
    | (with_reducible refine o8_nV hE (by decide) (by assumption) (fun _ _ => ?_))
    | (with_reducible refine o5_rd (fun _ => ?_)))
theorem n8_158_41 (hE : fE8 D) (h : rm_H) (z : nF5 Hz h) : oK5 Hz (b158_41 L xs zf D w h) := by
  unfold b158_41
  repeat' (first
    | with_reducible exact o5_dr (by assumption)
    | with_reducible exact o5_so (by assumption)
    | exact o5_none
    | with_reducible exact n8_158_46 hE _ _ (by assumption)
    | with_reducible refine o5_if ?_ ?_
    | (with_reducible refine o5_pF (by decide) (by assumption) (fun _ _ => ?_))
    | (with_reducible refine o5_sI (by assumption) (fun _ _ => ?_))
    | (with_reducible refine o5_sB (by assumption) (fun _ _ => ?_))
    | (with_reducible refine o5_sR (by assumption) (fun _ _ => ?_))
    | (with_reducible refine o8_nR (by assumption) (fun _ _ => ?_))
    | (with_reducible refine o5_nI (by assumption) (fun _ _ => ?_))
    | (with_reducible refine o5_cp (by assumption) (fun _ _ => ?_))
    | (with_reducible refine o5_cl (by assumption) (fun _ _ => ?_))
    | (with_reducible refine o5_ap (by decide) (by assumption) (fun _ _ => ?_))
    | (with_reducible refine o8_vI hE (by decide) (by assumption) (fun _ _ => ?_))
    | (with_reducible refine o8_vV hE (by decide) (by assumption) (fun _ _ => ?_))
    | (with_reducible refine o8_vR hE (by decide) (by assumption) (fun _ _ => ?_))
    | (with_reducible refine o8_dI hE (by decide) (by assumption) (fun _ _ => ?_))
    | (with_reducible refine o8_dV hE (by decide) (by assumption) (fun _ _ => ?_))
    | (with_reducible refine o8_dR hE (by decide) (by assumption) (fun _ _ => ?_))
    | (with_reducible refine o8_nV hE (by decide) (by assumption) (fun _ _ => ?_))
    | (with_reducible refine o5_rd (fun _ => ?_)))
theorem n8_158_0 (hE : fE8 D) (i0 : Int32) (h : rm_H) (z : nF5 Hz h) : oK5 Hz (b158_0 L xs zf D w i0 h) := by
  unfold b158_0
  repeat' (first
    | with_reducible exact o5_dr (by assumption)
    | with_reducible exact o5_so (by assumption)
    | exact o5_none
    | with_reducible exact n8_158_25 hE _ (by assumption)
    | with_reducible exact n8_158_30 hE _ _ (by assumption)
    | with_reducible exact n8_158_41 hE _ (by assumption)
    | with_reducible exact n8_158_46 hE _ _ (by assumption)
    | with_reducible refine o5_if ?_ ?_
    | (with_reducible refine o5_pF (by decide) (by assumption) (fun _ _ => ?_))
    | (with_reducible refine o5_sI (by assumption) (fun _ _ => ?_))
    | (with_reducible refine o5_sB (by assumption) (fun _ _ => ?_))
    | (with_reducible refine o5_sR (by assumption) (fun _ _ => ?_))
    | (with_reducible refine o8_nR (by assumption) (fun _ _ => ?_))
    | (with_reducible refine o5_nI (by assumption) (fun _ _ => ?_))
    | (with_reducible refine o5_cp (by assumption) (fun _ _ => ?_))
    | (with_reducible refine o5_cl (by assumption) (fun _ _ => ?_))
    | (with_reducible refine o5_ap (by decide) (by assumption) (fun _ _ => ?_))
    | (with_reducible refine o8_vI hE (by decide) (by assumption) (fun _ _ => ?_))
    | (with_reducible refine o8_vV hE (by decide) (by assumption) (fun _ _ => ?_))
    | (with_reducible refine o8_vR hE (by decide) (by assumption) (fun _ _ => ?_))
    | (with_reducible refine o8_dI hE (by decide) (by assumption) (fun _ _ => ?_))
    | (with_reducible refine o8_dV hE (by decide) (by assumption) (fun _ _ => ?_))
    | (with_reducible refine o8_dR hE (by decide) (by assumption) (fun _ _ => ?_))
    | (with_reducible refine o8_nV hE (by decide) (by assumption) (fun _ _ => ?_))
    | (with_reducible refine o5_rd (fun _ => ?_)))
theorem n8_159_0 (hE : fE8 D) (i0 : Int32) (h : rm_H) (z : nF5 Hz h) : oK5 Hz (b159_0 L xs zf D w i0 h) := by
  unfold b159_0
  repeat' (first
    | with_reducible exact o5_dr (by assumption)
    | with_reducible exact o5_so (by assumption)
    | exact o5_none
    | with_reducible refine o5_if ?_ ?_
    | (with_reducible refine o5_pF (by decide) (by assumption) (fun _ _ => ?_))
    | (with_reducible refine o5_sI (by assumption) (fun _ _ => ?_))
    | (with_reducible refine o5_sB (by assumption) (fun _ _ => ?_))
    | (with_reducible refine o5_sR (by assumption) (fun _ _ => ?_))
    | (with_reducible refine o8_nR (by assumption) (fun _ _ => ?_))
    | (with_reducible refine o5_nI (by assumption) (fun _ _ => ?_))
    | (with_reducible refine o5_cp (by assumption) (fun _ _ => ?_))
    | (with_reducible refine o5_cl (by assumption) (fun _ _ => ?_))
    | (with_reducible refine o5_ap (by decide) (by assumption) (fun _ _ => ?_))
    | (with_reducible refine o8_vI hE (by decide) (by assumption) (fun _ _ => ?_))
    | (with_reducible refine o8_vV hE (by decide) (by assumption) (fun _ _ => ?_))
    | (with_reducible refine o8_vR hE (by decide) (by assumption) (fun _ _ => ?_))
    | (with_reducible refine o8_dI hE (by decide) (by assumption) (fun _ _ => ?_))
    | (with_reducible refine o8_dV hE (by decide) (by assumption) (fun _ _ => ?_))
    | (with_reducible refine o8_dR hE (by decide) (by assumption) (fun _ _ => ?_))
    | (with_reducible refine o8_nV hE (by decide) (by assumption) (fun _ _ => ?_))
    | (with_reducible refine o5_rd (fun _ => ?_)))
theorem n8_160_0 (hE : fE8 D) (i0 : Int32) (h : rm_H) (z : nF5 Hz h) : oK5 Hz (b160_0 L xs zf D w i0 h) := by
  unfold b160_0
  repeat' (first
    | with_reducible exact o5_dr (by assumption)
    | with_reducible exact o5_so (by assumption)
    | exact o5_none
    | with_reducible refine o5_if ?_ ?_
    | (with_reducible refine o5_pF (by decide) (by assumption) (fun _ _ => ?_))
    | (with_reducible refine o5_sI (by assumption) (fun _ _ => ?_))
    | (with_reducible refine o5_sB (by assumption) (fun _ _ => ?_))
    | (with_reducible refine o5_sR (by assumption) (fun _ _ => ?_))
    | (with_reducible refine o8_nR (by assumption) (fun _ _ => ?_))
    | (with_reducible refine o5_nI (by assumption) (fun _ _ => ?_))
    | (with_reducible refine o5_cp (by assumption) (fun _ _ => ?_))
    | (with_reducible refine o5_cl (by assumption) (fun _ _ => ?_))
    | (with_reducible refine o5_ap (by decide) (by assumption) (fun _ _ => ?_))
    | (with_reducible refine o8_vI hE (by decide) (by assumption) (fun _ _ => ?_))
    | (with_reducible refine o8_vV hE (by decide) (by assumption) (fun _ _ => ?_))
    | (with_reducible refine o8_vR hE (by decide) (by assumption) (fun _ _ => ?_))
    | (with_reducible refine o8_dI hE (by decide) (by assumption) (fun _ _ => ?_))
    | (with_reducible refine o8_dV hE (by decide) (by assumption) (fun _ _ => ?_))
    | (with_reducible refine o8_dR hE (by decide) (by assumption) (fun _ _ => ?_))
    | (with_reducible refine o8_nV hE (by decide) (by assumption) (fun _ _ => ?_))
    | (with_reducible refine o5_rd (fun _ => ?_)))
theorem n8_161_12 (hE : fE8 D) (s0 : Int32) (h : rm_H) (z : nF5 Hz h) : oK5 Hz (b161_12 L xs zf D w s0 h) := by
  unfold b161_12
  repeat' (first
    | with_reducible exact o5_dr (by assumption)
    | with_reducible exact o5_so (by assumption)
    | exact o5_none
    | with_reducible refine o5_if ?_ ?_
    | (with_reducible refine o5_pF (by decide) (by assumption) (fun _ _ => ?_))
    | (with_reducible refine o5_sI (by assumption) (fun _ _ => ?_))
    | (with_reducible refine o5_sB (by assumption) (fun _ _ => ?_))
    | (with_reducible refine o5_sR (by assumption) (fun _ _ => ?_))
    | (with_reducible refine o8_nR (by assumption) (fun _ _ => ?_))
    | (with_reducible refine o5_nI (by assumption) (fun _ _ => ?_))
    | (with_reducible refine o5_cp (by assumption) (fun _ _ => ?_))
    | (with_reducible refine o5_cl (by assumption) (fun _ _ => ?_))
    | (with_reducible refine o5_ap (by decide) (by assumption) (fun _ _ => ?_))
    | (with_reducible refine o8_vI hE (by decide) (by assumption) (fun _ _ => ?_))
    | (with_reducible refine o8_vV hE (by decide) (by assumption) (fun _ _ => ?_))
    | (with_reducible refine o8_vR hE (by decide) (by assumption) (fun _ _ => ?_))
    | (with_reducible refine o8_dI hE (by decide) (by assumption) (fun _ _ => ?_))
    | (with_reducible refine o8_dV hE (by decide) (by assumption) (fun _ _ => ?_))
    | (with_reducible refine o8_dR hE (by decide) (by assumption) (fun _ _ => ?_))
    | (with_reducible refine o8_nV hE (by decide) (by assumption) (fun _ _ => ?_))
    | (with_reducible refine o5_rd (fun _ => ?_)))
theorem n8_161_0 (hE : fE8 D) (o0 : Option Nat) (h : rm_H) (z : nF5 Hz h) : oK5 Hz (b161_0 L xs zf D w o0 h) := by
  unfold b161_0
  repeat' (first
    | with_reducible exact o5_dr (by assumption)
    | with_reducible exact o5_so (by assumption)
    | exact o5_none
    | with_reducible exact n8_161_12 hE _ _ (by assumption)
    | with_reducible refine o5_if ?_ ?_
    | (with_reducible refine o5_pF (by decide) (by assumption) (fun _ _ => ?_))
    | (with_reducible refine o5_sI (by assumption) (fun _ _ => ?_))
    | (with_reducible refine o5_sB (by assumption) (fun _ _ => ?_))
    | (with_reducible refine o5_sR (by assumption) (fun _ _ => ?_))
    | (with_reducible refine o8_nR (by assumption) (fun _ _ => ?_))
    | (with_reducible refine o5_nI (by assumption) (fun _ _ => ?_))
    | (with_reducible refine o5_cp (by assumption) (fun _ _ => ?_))
    | (with_reducible refine o5_cl (by assumption) (fun _ _ => ?_))
    | (with_reducible refine o5_ap (by decide) (by assumption) (fun _ _ => ?_))
    | (with_reducible refine o8_vI hE (by decide) (by assumption) (fun _ _ => ?_))
    | (with_reducible refine o8_vV hE (by decide) (by assumption) (fun _ _ => ?_))
    | (with_reducible refine o8_vR hE (by decide) (by assumption) (fun _ _ => ?_))
    | (with_reducible refine o8_dI hE (by decide) (by assumption) (fun _ _ => ?_))
    | (with_reducible refine o8_dV hE (by decide) (by assumption) (fun _ _ => ?_))
    | (with_reducible refine o8_dR hE (by decide) (by assumption) (fun _ _ => ?_))
    | (with_reducible refine o8_nV hE (by decide) (by assumption) (fun _ _ => ?_))
    | (with_reducible refine o5_rd (fun _ => ?_)))
theorem n8_162_0 (hE : fE8 D) (o0 : Option Nat) (o1 : Option Nat) (h : rm_H) (z : nF5 Hz h) : oK5 Hz (b162_0 L xs zf D w o0 o1 h) := by
  unfold b162_0
  repeat' (first
    | with_reducible exact o5_dr (by assumption)
    | with_reducible exact o5_so (by assumption)
    | exact o5_none
    | with_reducible refine o5_if ?_ ?_
    | (with_reducible refine o5_pF (by decide) (by assumption) (fun _ _ => ?_))
    | (with_reducible refine o5_sI (by assumption) (fun _ _ => ?_))
    | (with_reducible refine o5_sB (by assumption) (fun _ _ => ?_))
    | (with_reducible refine o5_sR (by assumption) (fun _ _ => ?_))
    | (with_reducible refine o8_nR (by assumption) (fun _ _ => ?_))
    | (with_reducible refine o5_nI (by assumption) (fun _ _ => ?_))
    | (with_reducible refine o5_cp (by assumption) (fun _ _ => ?_))
    | (with_reducible refine o5_cl (by assumption) (fun _ _ => ?_))
    | (with_reducible refine o5_ap (by decide) (by assumption) (fun _ _ => ?_))
    | (with_reducible refine o8_vI hE (by decide) (by assumption) (fun _ _ => ?_))
    | (with_reducible refine o8_vV hE (by decide) (by assumption) (fun _ _ => ?_))
    | (with_reducible refine o8_vR hE (by decide) (by assumption) (fun _ _ => ?_))
    | (with_reducible refine o8_dI hE (by decide) (by assumption) (fun _ _ => ?_))
    | (with_reducible refine o8_dV hE (by decide) (by assumption) (fun _ _ => ?_))
    | (with_reducible refine o8_dR hE (by decide) (by assumption) (fun _ _ => ?_))
    | (with_reducible refine o8_nV hE (by decide) (by assumption) (fun _ _ => ?_))
    | (with_reducible refine o5_rd (fun _ => ?_)))
theorem n8_163_54 (hE : fE8 D) (h : rm_H) (z : nF5 Hz h) : oK5 Hz (b163_54 L xs zf D w h) := by
  unfold b163_54
  repeat' (first
    | with_reducible exact o5_dr (by assumption)
    | with_reducible exact o5_so (by assumption)
    | exact o5_none
    | with_reducible refine o5_if ?_ ?_
    | (with_reducible refine o5_pF (by decide) (by assumption) (fun _ _ => ?_))
    | (with_reducible refine o5_sI (by assumption) (fun _ _ => ?_))
    | (with_reducible refine o5_sB (by assumption) (fun _ _ => ?_))
    | (with_reducible refine o5_sR (by assumption) (fun _ _ => ?_))
    | (with_reducible refine o8_nR (by assumption) (fun _ _ => ?_))
    | (with_reducible refine o5_nI (by assumption) (fun _ _ => ?_))
    | (with_reducible refine o5_cp (by assumption) (fun _ _ => ?_))
    | (with_reducible refine o5_cl (by assumption) (fun _ _ => ?_))
    | (with_reducible refine o5_ap (by decide) (by assumption) (fun _ _ => ?_))
    | (with_reducible refine o8_vI hE (by decide) (by assumption) (fun _ _ => ?_))
    | (with_reducible refine o8_vV hE (by decide) (by assumption) (fun _ _ => ?_))
    | (with_reducible refine o8_vR hE (by decide) (by assumption) (fun _ _ => ?_))
    | (with_reducible refine o8_dI hE (by decide) (by assumption) (fun _ _ => ?_))
    | (with_reducible refine o8_dV hE (by decide) (by assumption) (fun _ _ => ?_))
    | (with_reducible refine o8_dR hE (by decide) (by assumption) (fun _ _ => ?_))
    | (with_reducible refine o8_nV hE (by decide) (by assumption) (fun _ _ => ?_))
    | (with_reducible refine o5_rd (fun _ => ?_)))
theorem n8_163_2 (hE : fE8 D) : ∀ (n : Nat) (b0 : Option Nat) (b1 : Int32) (h : rm_H), nF5 Hz h → oK5 Hz (b163_2 L xs zf D w n b0 b1 h)
  | 0, _, _, _, _ => fun r s' e => by
    have e : (none : Option dR) = some (r, s') := e
    cases e
  | n + 1, b0, b1, h, z => by
    have ih := n8_163_2 hE n
    unfold b163_2
    repeat' (first
      | with_reducible exact o5_dr (by assumption)
      | with_reducible exact o5_so (by assumption)
      | exact o5_none
      | with_reducible exact n8_163_54 hE _ (by assumption)
      | with_reducible exact ih _ _ _ (by assumption)
      | with_reducible refine o5_if ?_ ?_
      | (with_reducible refine o5_pF (by decide) (by assumption) (fun _ _ => ?_))
      | (with_reducible refine o5_sI (by assumption) (fun _ _ => ?_))
      | (with_reducible refine o5_sB (by assumption) (fun _ _ => ?_))
      | (with_reducible refine o5_sR (by assumption) (fun _ _ => ?_))
      | (with_reducible refine o8_nR (by assumption) (fun _ _ => ?_))
      | (with_reducible refine o5_nI (by assumption) (fun _ _ => ?_))
      | (with_reducible refine o5_cp (by assumption) (fun _ _ => ?_))
      | (with_reducible refine o5_cl (by assumption) (fun _ _ => ?_))
      | (with_reducible refine o5_ap (by decide) (by assumption) (fun _ _ => ?_))
      | (with_reducible refine o8_vI hE (by decide) (by assumption) (fun _ _ => ?_))
      | (with_reducible refine o8_vV hE (by decide) (by assumption) (fun _ _ => ?_))
      | (with_reducible refine o8_vR hE (by decide) (by assumption) (fun _ _ => ?_))
      | (with_reducible refine o8_dI hE (by decide) (by assumption) (fun _ _ => ?_))
      | (with_reducible refine o8_dV hE (by decide) (by assumption) (fun _ _ => ?_))
      | (with_reducible refine o8_dR hE (by decide) (by assumption) (fun _ _ => ?_))
      | (with_reducible refine o8_nV hE (by decide) (by assumption) (fun _ _ => ?_))
      | (with_reducible refine o5_rd (fun _ => ?_)))
theorem n8_163_0 (hE : fE8 D) (o0 : Option Nat) (h : rm_H) (z : nF5 Hz h) : oK5 Hz (b163_0 L xs zf D w o0 h) := by
  unfold b163_0
  repeat' (first
    | with_reducible exact o5_dr (by assumption)
    | with_reducible exact o5_so (by assumption)
    | exact o5_none
    | with_reducible exact n8_163_2 hE _ _ _ _ (by assumption)
    | with_reducible refine o5_if ?_ ?_
    | (with_reducible refine o5_pF (by decide) (by assumption) (fun _ _ => ?_))
    | (with_reducible refine o5_sI (by assumption) (fun _ _ => ?_))
    | (with_reducible refine o5_sB (by assumption) (fun _ _ => ?_))
    | (with_reducible refine o5_sR (by assumption) (fun _ _ => ?_))
    | (with_reducible refine o8_nR (by assumption) (fun _ _ => ?_))
    | (with_reducible refine o5_nI (by assumption) (fun _ _ => ?_))
    | (with_reducible refine o5_cp (by assumption) (fun _ _ => ?_))
    | (with_reducible refine o5_cl (by assumption) (fun _ _ => ?_))
    | (with_reducible refine o5_ap (by decide) (by assumption) (fun _ _ => ?_))
    | (with_reducible refine o8_vI hE (by decide) (by assumption) (fun _ _ => ?_))
    | (with_reducible refine o8_vV hE (by decide) (by assumption) (fun _ _ => ?_))
    | (with_reducible refine o8_vR hE (by decide) (by assumption) (fun _ _ => ?_))
    | (with_reducible refine o8_dI hE (by decide) (by assumption) (fun _ _ => ?_))
    | (with_reducible refine o8_dV hE (by decide) (by assumption) (fun _ _ => ?_))
    | (with_reducible refine o8_dR hE (by decide) (by assumption) (fun _ _ => ?_))
    | (with_reducible refine o8_nV hE (by decide) (by assumption) (fun _ _ => ?_))
    | (with_reducible refine o5_rd (fun _ => ?_)))
theorem n8_164_159 (hE : fE8 D) (h : rm_H) (z : nF5 Hz h) : oK5 Hz (b164_159 L xs zf D w h) := by
  unfold b164_159
  repeat' (first
    | with_reducible exact o5_dr (by assumption)
    | with_reducible exact o5_so (by assumption)
    | exact o5_none
    | with_reducible refine o5_if ?_ ?_
    | (with_reducible refine o5_pF (by decide) (by assumption) (fun _ _ => ?_))
    | (with_reducible refine o5_sI (by assumption) (fun _ _ => ?_))
    | (with_reducible refine o5_sB (by assumption) (fun _ _ => ?_))
    | (with_reducible refine o5_sR (by assumption) (fun _ _ => ?_))
    | (with_reducible refine o8_nR (by assumption) (fun _ _ => ?_))
    | (with_reducible refine o5_nI (by assumption) (fun _ _ => ?_))
    | (with_reducible refine o5_cp (by assumption) (fun _ _ => ?_))
    | (with_reducible refine o5_cl (by assumption) (fun _ _ => ?_))
    | (with_reducible refine o5_ap (by decide) (by assumption) (fun _ _ => ?_))
    | (with_reducible refine o8_vI hE (by decide) (by assumption) (fun _ _ => ?_))
    | (with_reducible refine o8_vV hE (by decide) (by assumption) (fun _ _ => ?_))
    | (with_reducible refine o8_vR hE (by decide) (by assumption) (fun _ _ => ?_))
    | (with_reducible refine o8_dI hE (by decide) (by assumption) (fun _ _ => ?_))
    | (with_reducible refine o8_dV hE (by decide) (by assumption) (fun _ _ => ?_))
    | (with_reducible refine o8_dR hE (by decide) (by assumption) (fun _ _ => ?_))
    | (with_reducible refine o8_nV hE (by decide) (by assumption) (fun _ _ => ?_))
    | (with_reducible refine o5_rd (fun _ => ?_)))
theorem n8_164_155 (hE : fE8 D) (s0 : Int32) (s1 : Int32) (s2 : Option Nat) (h : rm_H) (z : nF5 Hz h) : oK5 Hz (b164_155 L xs zf D w s0 s1 s2 h) := by
  unfold b164_155
  repeat' (first
    | with_reducible exact o5_dr (by assumption)
    | with_reducible exact o5_so (by assumption)
    | exact o5_none
    | with_reducible exact n8_164_159 hE _ (by assumption)
    | with_reducible refine o5_if ?_ ?_
    | (with_reducible refine o5_pF (by decide) (by assumption) (fun _ _ => ?_))
    | (with_reducible refine o5_sI (by assumption) (fun _ _ => ?_))
    | (with_reducible refine o5_sB (by assumption) (fun _ _ => ?_))
    | (with_reducible refine o5_sR (by assumption) (fun _ _ => ?_))
    | (with_reducible refine o8_nR (by assumption) (fun _ _ => ?_))
    | (with_reducible refine o5_nI (by assumption) (fun _ _ => ?_))
    | (with_reducible refine o5_cp (by assumption) (fun _ _ => ?_))
    | (with_reducible refine o5_cl (by assumption) (fun _ _ => ?_))
    | (with_reducible refine o5_ap (by decide) (by assumption) (fun _ _ => ?_))
    | (with_reducible refine o8_vI hE (by decide) (by assumption) (fun _ _ => ?_))
    | (with_reducible refine o8_vV hE (by decide) (by assumption) (fun _ _ => ?_))
    | (with_reducible refine o8_vR hE (by decide) (by assumption) (fun _ _ => ?_))
    | (with_reducible refine o8_dI hE (by decide) (by assumption) (fun _ _ => ?_))
    | (with_reducible refine o8_dV hE (by decide) (by assumption) (fun _ _ => ?_))
    | (with_reducible refine o8_dR hE (by decide) (by assumption) (fun _ _ => ?_))
    | (with_reducible refine o8_nV hE (by decide) (by assumption) (fun _ _ => ?_))
    | (with_reducible refine o5_rd (fun _ => ?_)))
theorem n8_164_139 (hE : fE8 D) (o0 : Option Nat) (s0 : Int32) (h : rm_H) (z : nF5 Hz h) : oK5 Hz (b164_139 L xs zf D w o0 s0 h) := by
  unfold b164_139
  repeat' (first
    | with_reducible exact o5_dr (by assumption)
    | with_reducible exact o5_so (by assumption)
    | exact o5_none
    | with_reducible exact n8_164_155 hE _ _ _ _ (by assumption)
    | with_reducible refine o5_if ?_ ?_
    | (with_reducible refine o5_pF (by decide) (by assumption) (fun _ _ => ?_))
    | (with_reducible refine o5_sI (by assumption) (fun _ _ => ?_))
    | (with_reducible refine o5_sB (by assumption) (fun _ _ => ?_))
    | (with_reducible refine o5_sR (by assumption) (fun _ _ => ?_))
    | (with_reducible refine o8_nR (by assumption) (fun _ _ => ?_))
    | (with_reducible refine o5_nI (by assumption) (fun _ _ => ?_))
    | (with_reducible refine o5_cp (by assumption) (fun _ _ => ?_))
    | (with_reducible refine o5_cl (by assumption) (fun _ _ => ?_))
    | (with_reducible refine o5_ap (by decide) (by assumption) (fun _ _ => ?_))
    | (with_reducible refine o8_vI hE (by decide) (by assumption) (fun _ _ => ?_))
    | (with_reducible refine o8_vV hE (by decide) (by assumption) (fun _ _ => ?_))
    | (with_reducible refine o8_vR hE (by decide) (by assumption) (fun _ _ => ?_))
    | (with_reducible refine o8_dI hE (by decide) (by assumption) (fun _ _ => ?_))
    | (with_reducible refine o8_dV hE (by decide) (by assumption) (fun _ _ => ?_))
    | (with_reducible refine o8_dR hE (by decide) (by assumption) (fun _ _ => ?_))
    | (with_reducible refine o8_nV hE (by decide) (by assumption) (fun _ _ => ?_))
    | (with_reducible refine o5_rd (fun _ => ?_)))
theorem n8_164_138 (hE : fE8 D) (o0 : Option Nat) (h : rm_H) (z : nF5 Hz h) : oK5 Hz (b164_138 L xs zf D w o0 h) := by
  unfold b164_138
  repeat' (first
    | with_reducible exact o5_dr (by assumption)
    | with_reducible exact o5_so (by assumption)
    | exact o5_none
    | with_reducible exact n8_164_139 hE _ _ _ (by assumption)
    | with_reducible refine o5_if ?_ ?_
    | (with_reducible refine o5_pF (by decide) (by assumption) (fun _ _ => ?_))
    | (with_reducible refine o5_sI (by assumption) (fun _ _ => ?_))
    | (with_reducible refine o5_sB (by assumption) (fun _ _ => ?_))
    | (with_reducible refine o5_sR (by assumption) (fun _ _ => ?_))
    | (with_reducible refine o8_nR (by assumption) (fun _ _ => ?_))
    | (with_reducible refine o5_nI (by assumption) (fun _ _ => ?_))
    | (with_reducible refine o5_cp (by assumption) (fun _ _ => ?_))
    | (with_reducible refine o5_cl (by assumption) (fun _ _ => ?_))
    | (with_reducible refine o5_ap (by decide) (by assumption) (fun _ _ => ?_))
    | (with_reducible refine o8_vI hE (by decide) (by assumption) (fun _ _ => ?_))
    | (with_reducible refine o8_vV hE (by decide) (by assumption) (fun _ _ => ?_))
    | (with_reducible refine o8_vR hE (by decide) (by assumption) (fun _ _ => ?_))
    | (with_reducible refine o8_dI hE (by decide) (by assumption) (fun _ _ => ?_))
    | (with_reducible refine o8_dV hE (by decide) (by assumption) (fun _ _ => ?_))
    | (with_reducible refine o8_dR hE (by decide) (by assumption) (fun _ _ => ?_))
    | (with_reducible refine o8_nV hE (by decide) (by assumption) (fun _ _ => ?_))
    | (with_reducible refine o5_rd (fun _ => ?_)))
end N8B
