/-! blocks -/
section N8B
variable {L : Nat} {xs : Nat → Int32} {zf : Value} {D : dD} {w : Nat} {Hz : rm_H}
theorem n8_172_32 (hE : fE8 D) {K2 : Option Nat → Option Nat → Option Nat → rm_H → Option dR} (hK2 : ∀ (a0 : Option Nat) (a1 : Option Nat) (a2 : Option Nat) (h : rm_H), nF5 Hz h → oK5 Hz (K2 a0 a1 a2 h)) (o0 : Option Nat) (o1 : Option Nat) (o2 : Option Nat) (h : rm_H) (z : nF5 Hz h) : oK5 Hz (b172_32 L xs zf D w K2 o0 o1 o2 h) := by
  unfold b172_32
  repeat' (first
    | with_reducible exact o5_dr (by assumption)
    | with_reducible exact o5_so (by assumption)
    | exact o5_none
    | with_reducible exact hK2 _ _ _ _ (by assumption)
    | with_reducible refine o5_if ?_ ?_
    | (with_reducible refine o5_pF (by decide) (by assumption) (fun _ _ => ?_))
    | (with_reducible refine o5_sI (by assumption) (fun _ _ => ?_))
    | (with_reducible refine o5_sB (by assumption) (fun _ _ => ?_))
    | (with_reducible refine o5_sR (by assumption) (fun _ _ => ?_))
    | (with_reducible refine o8_nR (by assumption) (fun _ _ => ?_))
    | (with_reducible refine o5_nI (by assumption) (fun _ _ => ?_))
    | (with_reducible refine o5_cp (by assumption) (fun _ _ => ?_))
    | (with_reducible refine o5_cl (by assumption) (fun _ _ => ?_))
    | (with_reducible refine o5_ap (by decide) (by assumption) (fun _ _ => ?_))
    | (with_reducible refine o8_vI hE (by decide) (by assumption) (fun _ _ => ?_))
    | (with_reducible refine o8_vV hE (by decide) (by assumption) (fun _ _ => ?_))
    | (with_reducible refine o8_vR hE (by decide) (by assumption) (fun _ _ => ?_))
    | (with_reducible refine o8_dI hE (by decide) (by assumption) (fun _ _ => ?_))
    | (with_reducible refine o8_dV hE (by decide) (by assumption) (fun _ _ => ?_))
    | (with_reducible refine o8_dR hE (by decide) (by assumption) (fun _ _ => ?_))
    | (with_reducible refine o8_nV hE (by decide) (by assumption) (fun _ _ => ?_))
    | (with_reducible refine o5_rd (fun _ => ?_)))
theorem n8_172_27 (hE : fE8 D) {K2 : Option Nat → Option Nat → Option Nat → rm_H → Option dR} (hK2 : ∀ (a0 : Option Nat) (a1 : Option Nat) (a2 : Option Nat) (h : rm_H), nF5 Hz h → oK5 Hz (K2 a0 a1 a2 h)) (o0 : Option Nat) (o1 : Option Nat) (o2 : Option Nat) (h : rm_H) (z : nF5 Hz h) : oK5 Hz (b172_27 L xs zf D w K2 o0 o1 o2 h) := by
  unfold b172_27
  repeat' (first
    | with_reducible exact o5_dr (by assumption)
    | with_reducible exact o5_so (by assumption)
    | exact o5_none
    | with_reducible exact n8_172_32 hE hK2 _ _ _ _ (by assumption)
    | with_reducible exact hK2 _ _ _ _ (by assumption)
    | with_reducible refine o5_if ?_ ?_
    | (with_reducible refine o5_pF (by decide) (by assumption) (fun _ _ => ?_))
    | (with_reducible refine o5_sI (by assumption) (fun _ _ => ?_))
    | (with_reducible refine o5_sB (by assumption) (fun _ _ => ?_))
    | (with_reducible refine o5_sR (by assumption) (fun _ _ => ?_))
    | (with_reducible refine o8_nR (by assumption) (fun _ _ => ?_))
    | (with_reducible refine o5_nI (by assumption) (fun _ _ => ?_))
    | (with_reducible refine o5_cp (by assumption) (fun _ _ => ?_))
    | (with_reducible refine o5_cl (by assumption) (fun _ _ => ?_))
    | (with_reducible refine o5_ap (by decide) (by assumption) (fun _ _ => ?_))
    | (with_reducible refine o8_vI hE (by decide) (by assumption) (fun _ _ => ?_))
    | (with_reducible refine o8_vV hE (by decide) (by assumption) (fun _ _ => ?_))
    | (with_reducible refine o8_vR hE (by decide) (by assumption) (fun _ _ => ?_))
    | (with_reducible refine o8_dI hE (by decide) (by assumption) (fun _ _ => ?_))
    | (with_reducible refine o8_dV hE (by decide) (by assumption) (fun _ _ => ?_))
    | (with_reducible refine o8_dR hE (by decide) (by assumption) (fun _ _ => ?_))
    | (with_reducible refine o8_nV hE (by decide) (by assumption) (fun _ _ => ?_))
    | (with_reducible refine o5_rd (fun _ => ?_)))
theorem n8_172_73 (hE : fE8 D) (i3 : Int32) (h : rm_H) (z : nF5 Hz h) : oK5 Hz (b172_73 L xs zf D w i3 h) := by
  unfold b172_73
  repeat' (first
    | with_reducible exact o5_dr (by assumption)
    | with_reducible exact o5_so (by assumption)
    | exact o5_none
    | with_reducible refine o5_if ?_ ?_
    | (with_reducible refine o5_pF (by decide) (by assumption) (fun _ _ => ?_))
    | (with_reducible refine o5_sI (by assumption) (fun _ _ => ?_))
    | (with_reducible refine o5_sB (by assumption) (fun _ _ => ?_))
    | (with_reducible refine o5_sR (by assumption) (fun _ _ => ?_))
    | (with_reducible refine o8_nR (by assumption) (fun _ _ => ?_))
    | (with_reducible refine o5_nI (by assumption) (fun _ _ => ?_))
    | (with_reducible refine o5_cp (by assumption) (fun _ _ => ?_))
    | (with_reducible refine o5_cl (by assumption) (fun _ _ => ?_))
    | (with_reducible refine o5_ap (by decide) (by assumption) (fun _ _ => ?_))
    | (with_reducible refine o8_vI hE (by decide) (by assumption) (fun _ _ => ?_))
    | (with_reducible refine o8_vV hE (by decide) (by assumption) (fun _ _ => ?_))
    | (with_reducible refine o8_vR hE (by decide) (by assumption) (fun _ _ => ?_))
    | (with_reducible refine o8_dI hE (by decide) (by assumption) (fun _ _ => ?_))
    | (with_reducible refine o8_dV hE (by decide) (by assumption) (fun _ _ => ?_))
    | (with_reducible refine o8_dR hE (by decide) (by assumption) (fun _ _ => ?_))
    | (with_reducible refine o8_nV hE (by decide) (by assumption) (fun _ _ => ?_))
    | (with_reducible refine o5_rd (fun _ => ?_)))
theorem n8_172_46 (hE : fE8 D) : ∀ (n : Nat) (b0 : Option Nat) (b1 : Option Nat) (b2 : Option Nat) (b3 : Int32) (h : rm_H), nF5 Hz h → oK5 Hz (b172_46 L xs zf D w n b0 b1 b2 b3 h)
  | 0, _, _, _, _, _, _ => fun r s' e => by
    have e : (none : Option dR) = some (r, s') := e
    cases e
  | n + 1, b0, b1, b2, b3, h, z => by
    have ih := n8_172_46 hE n
    unfold b172_46
    repeat' (first
      | with_reducible exact o5_dr (by assumption)
      | with_reducible exact o5_so (by assumption)
      | exact o5_none
      | with_reducible exact n8_172_73 hE _ _ (by assumption)
      | with_reducible exact ih _ _ _ _ _ (by assumption)
      | with_reducible refine o5_if ?_ ?_
      | (with_reducible refine o5_pF (by decide) (by assumption) (fun _ _ => ?_))
      | (with_reducible refine o5_sI (by assumption) (fun _ _ => ?_))
      | (with_reducible refine o5_sB (by assumption) (fun _ _ => ?_))
      | (with_reducible refine o5_sR (by assumption) (fun _ _ => ?_))
      | (with_reducible refine o8_nR (by assumption) (fun _ _ => ?_))
      | (with_reducible refine o5_nI (by assumption) (fun _ _ => ?_))
      | (with_reducible refine o5_cp (by assumption) (fun _ _ => ?_))
      | (with_reducible refine o5_cl (by assumption) (fun _ _ => ?_))
      | (with_reducible refine o5_ap (by decide) (by assumption) (fun _ _ => ?_))
      | (with_reducible refine o8_vI hE (by decide) (by assumption) (fun _ _ => ?_))
      | (with_reducible refine o8_vV hE (by decide) (by assumption) (fun _ _ => ?_))
      | (with_reducible refine o8_vR hE (by decide) (by assumption) (fun _ _ => ?_))
      | (with_reducible refine o8_dI hE (by decide) (by assumption) (fun _ _ => ?_))
      | (with_reducible refine o8_dV hE (by decide) (by assumption) (fun _ _ => ?_))
      | (with_reducible refine o8_dR hE (by decide) (by assumption) (fun _ _ => ?_))
      | (with_reducible refine o8_nV hE (by decide) (by assumption) (fun _ _ => ?_))
      | (with_reducible refine o5_rd (fun _ => ?_)))
theorem n8_172_2 (hE : fE8 D) : ∀ (n : Nat) (b0 : Option Nat) (b1 : Option Nat) (b2 : Option Nat) (h : rm_H), nF5 Hz h → oK5 Hz (b172_2 L xs zf D w n b0 b1 b2 h)
  | 0, _, _, _, _, _ => fun r s' e => by
    have e : (none : Option dR) = some (r, s') := e
    cases e
  | n + 1, b0, b1, b2, h, z => by
    have ih := n8_172_2 hE n
    unfold b172_2
    repeat' (first
      | with_reducible exact o5_dr (by assumption)
      | with_reducible exact o5_so (by assumption)
      | exact o5_none
      | with_reducible exact n8_172_27 hE ih _ _ _ _ (by assumption)
      | with_reducible exact n8_172_32 hE ih _ _ _ _ (by assumption)
      | with_reducible exact n8_172_46 hE _ _ _ _ _ _ (by assumption)
      | with_reducible exact ih _ _ _ _ (by assumption)
      | with_reducible refine o5_if ?_ ?_
      | (with_reducible refine o5_pF (by decide) (by assumption) (fun _ _ => ?_))
      | (with_reducible refine o5_sI (by assumption) (fun _ _ => ?_))
      | (with_reducible refine o5_sB (by assumption) (fun _ _ => ?_))
      | (with_reducible refine o5_sR (by assumption) (fun _ _ => ?_))
      | (with_reducible refine o8_nR (by assumption) (fun _ _ => ?_))
      | (with_reducible refine o5_nI (by assumption) (fun _ _ => ?_))
      | (with_reducible refine o5_cp (by assumption) (fun _ _ => ?_))
      | (with_reducible refine o5_cl (by assumption) (fun _ _ => ?_))
      | (with_reducible refine o5_ap (by decide) (by assumption) (fun _ _ => ?_))
      | (with_reducible refine o8_vI hE (by decide) (by assumption) (fun _ _ => ?_))
      | (with_reducible refine o8_vV hE (by decide) (by assumption) (fun _ _ => ?_))
      | (with_reducible refine o8_vR hE (by decide) (by assumption) (fun _ _ => ?_))
      | (with_reducible refine o8_dI hE (by decide) (by assumption) (fun _ _ => ?_))
      | (with_reducible refine o8_dV hE (by decide) (by assumption) (fun _ _ => ?_))
      | (with_reducible refine o8_dR hE (by decide) (by assumption) (fun _ _ => ?_))
      | (with_reducible refine o8_nV hE (by decide) (by assumption) (fun _ _ => ?_))
      | (with_reducible refine o5_rd (fun _ => ?_)))
theorem n8_172_0 (hE : fE8 D) (o0 : Option Nat) (o1 : Option Nat) (h : rm_H) (z : nF5 Hz h) : oK5 Hz (b172_0 L xs zf D w o0 o1 h) := by
  unfold b172_0
  repeat' (first
    | with_reducible exact o5_dr (by assumption)
    | with_reducible exact o5_so (by assumption)
    | exact o5_none
    | with_reducible exact n8_172_2 hE _ _ _ _ _ (by assumption)
    | with_reducible refine o5_if ?_ ?_
    | (with_reducible refine o5_pF (by decide) (by assumption) (fun _ _ => ?_))
    | (with_reducible refine o5_sI (by assumption) (fun _ _ => ?_))
    | (with_reducible refine o5_sB (by assumption) (fun _ _ => ?_))
    | (with_reducible refine o5_sR (by assumption) (fun _ _ => ?_))
    | (with_reducible refine o8_nR (by assumption) (fun _ _ => ?_))
    | (with_reducible refine o5_nI (by assumption) (fun _ _ => ?_))
    | (with_reducible refine o5_cp (by assumption) (fun _ _ => ?_))
    | (with_reducible refine o5_cl (by assumption) (fun _ _ => ?_))
    | (with_reducible refine o5_ap (by decide) (by assumption) (fun _ _ => ?_))
    | (with_reducible refine o8_vI hE (by decide) (by assumption) (fun _ _ => ?_))
    | (with_reducible refine o8_vV hE (by decide) (by assumption) (fun _ _ => ?_))
    | (with_reducible refine o8_vR hE (by decide) (by assumption) (fun _ _ => ?_))
    | (with_reducible refine o8_dI hE (by decide) (by assumption) (fun _ _ => ?_))
    | (with_reducible refine o8_dV hE (by decide) (by assumption) (fun _ _ => ?_))
    | (with_reducible refine o8_dR hE (by decide) (by assumption) (fun _ _ => ?_))
    | (with_reducible refine o8_nV hE (by decide) (by assumption) (fun _ _ => ?_))
    | (with_reducible refine o5_rd (fun _ => ?_)))
theorem n8_173_2 (hE : fE8 D) : ∀ (n : Nat) (b0 : Option Nat) (b1 : Option Nat) (b2 : Int32) (h : rm_H), nF5 Hz h → oK5 Hz (b173_2 L xs zf D w n b0 b1 b2 h)
  | 0, _, _, _, _, _ => fun r s' e => by
    have e : (none : Option dR) = some (r, s') := e
    cases e
  | n + 1, b0, b1, b2, h, z => by
    have ih := n8_173_2 hE n
    unfold b173_2
    repeat' (first
      | with_reducible exact o5_dr (by assumption)
      | with_reducible exact o5_so (by assumption)
      | exact o5_none
      | with_reducible exact ih _ _ _ _ (by assumption)
      | with_reducible refine o5_if ?_ ?_
      | (with_reducible refine o5_pF (by decide) (by assumption) (fun _ _ => ?_))
      | (with_reducible refine o5_sI (by assumption) (fun _ _ => ?_))
      | (with_reducible refine o5_sB (by assumption) (fun _ _ => ?_))
      | (with_reducible refine o5_sR (by assumption) (fun _ _ => ?_))
      | (with_reducible refine o8_nR (by assumption) (fun _ _ => ?_))
      | (with_reducible refine o5_nI (by assumption) (fun _ _ => ?_))
      | (with_reducible refine o5_cp (by assumption) (fun _ _ => ?_))
      | (with_reducible refine o5_cl (by assumption) (fun _ _ => ?_))
      | (with_reducible refine o5_ap (by decide) (by assumption) (fun _ _ => ?_))
      | (with_reducible refine o8_vI hE (by decide) (by assumption) (fun _ _ => ?_))
      | (with_reducible refine o8_vV hE (by decide) (by assumption) (fun _ _ => ?_))
      | (with_reducible refine o8_vR hE (by decide) (by assumption) (fun _ _ => ?_))
      | (with_reducible refine o8_dI hE (by decide) (by assumption) (fun _ _ => ?_))
      | (with_reducible refine o8_dV hE (by decide) (by assumption) (fun _ _ => ?_))
      | (with_reducible refine o8_dR hE (by decide) (by assumption) (fun _ _ => ?_))
      | (with_reducible refine o8_nV hE (by decide) (by assumption) (fun _ _ => ?_))
      | (with_reducible refine o5_rd (fun _ => ?_)))
theorem n8_173_0 (hE : fE8 D) (o0 : Option Nat) (o1 : Option Nat) (h : rm_H) (z : nF5 Hz h) : oK5 Hz (b173_0 L xs zf D w o0 o1 h) := by
  unfold b173_0
  repeat' (first
    | with_reducible exact o5_dr (by assumption)
    | with_reducible exact o5_so (by assumption)
    | exact o5_none
    | with_reducible exact n8_173_2 hE _ _ _ _ _ (by assumption)
    | with_reducible refine o5_if ?_ ?_
    | (with_reducible refine o5_pF (by decide) (by assumption) (fun _ _ => ?_))
    | (with_reducible refine o5_sI (by assumption) (fun _ _ => ?_))
    | (with_reducible refine o5_sB (by assumption) (fun _ _ => ?_))
    | (with_reducible refine o5_sR (by assumption) (fun _ _ => ?_))
    | (with_reducible refine o8_nR (by assumption) (fun _ _ => ?_))
    | (with_reducible refine o5_nI (by assumption) (fun _ _ => ?_))
    | (with_reducible refine o5_cp (by assumption) (fun _ _ => ?_))
    | (with_reducible refine o5_cl (by assumption) (fun _ _ => ?_))
    | (with_reducible refine o5_ap (by decide) (by assumption) (fun _ _ => ?_))
    | (with_reducible refine o8_vI hE (by decide) (by assumption) (fun _ _ => ?_))
    | (with_reducible refine o8_vV hE (by decide) (by assumption) (fun _ _ => ?_))
    | (with_reducible refine o8_vR hE (by decide) (by assumption) (fun _ _ => ?_))
    | (with_reducible refine o8_dI hE (by decide) (by assumption) (fun _ _ => ?_))
    | (with_reducible refine o8_dV hE (by decide) (by assumption) (fun _ _ => ?_))
    | (with_reducible refine o8_dR hE (by decide) (by assumption) (fun _ _ => ?_))
    | (with_reducible refine o8_nV hE (by decide) (by assumption) (fun _ _ => ?_))
    | (with_reducible refine o5_rd (fun _ => ?_)))
theorem n8_174_0 (hE : fE8 D) (o0 : Option Nat) (o1 : Option Nat) (h : rm_H) (z : nF5 Hz h) : oK5 Hz (b174_0 L xs zf D w o0 o1 h) := by
  unfold b174_0
  repeat' (first
    | with_reducible exact o5_dr (by assumption)
    | with_reducible exact o5_so (by assumption)
    | exact o5_none
    | with_reducible refine o5_if ?_ ?_
    | (with_reducible refine o5_pF (by decide) (by assumption) (fun _ _ => ?_))
    | (with_reducible refine o5_sI (by assumption) (fun _ _ => ?_))
    | (with_reducible refine o5_sB (by assumption) (fun _ _ => ?_))
    | (with_reducible refine o5_sR (by assumption) (fun _ _ => ?_))
    | (with_reducible refine o8_nR (by assumption) (fun _ _ => ?_))
    | (with_reducible refine o5_nI (by assumption) (fun _ _ => ?_))
    | (with_reducible refine o5_cp (by assumption) (fun _ _ => ?_))
    | (with_reducible refine o5_cl (by assumption) (fun _ _ => ?_))
    | (with_reducible refine o5_ap (by decide) (by assumption) (fun _ _ => ?_))
    | (with_reducible refine o8_vI hE (by decide) (by assumption) (fun _ _ => ?_))
    | (with_reducible refine o8_vV hE (by decide) (by assumption) (fun _ _ => ?_))
    | (with_reducible refine o8_vR hE (by decide) (by assumption) (fun _ _ => ?_))
    | (with_reducible refine o8_dI hE (by decide) (by assumption) (fun _ _ => ?_))
    | (with_reducible refine o8_dV hE (by decide) (by assumption) (fun _ _ => ?_))
    | (with_reducible refine o8_dR hE (by decide) (by assumption) (fun _ _ => ?_))
    | (with_reducible refine o8_nV hE (by decide) (by assumption) (fun _ _ => ?_))
    | (with_reducible refine o5_rd (fun _ => ?_)))
theorem n8_175_46 (hE : fE8 D) (o0 : Option Nat) (i1 : Int32) (i2 : Int32) (h : rm_H) (z : nF5 Hz h) : oK5 Hz (b175_46 L xs zf D w o0 i1 i2 h) := by
  unfold b175_46
  repeat' (first
    | with_reducible exact o5_dr (by assumption)
    | with_reducible exact o5_so (by assumption)
    | exact o5_none
    | with_reducible refine o5_if ?_ ?_
    | (with_reducible refine o5_pF (by decide) (by assumption) (fun _ _ => ?_))
    | (with_reducible refine o5_sI (by assumption) (fun _ _ => ?_))
    | (with_reducible refine o5_sB (by assumption) (fun _ _ => ?_))
    | (with_reducible refine o5_sR (by assumption) (fun _ _ => ?_))
    | (with_reducible refine o8_nR (by assumption) (fun _ _ => ?_))
    | (with_reducible refine o5_nI (by assumption) (fun _ _ => ?_))
    | (with_reducible refine o5_cp (by assumption) (fun _ _ => ?_))
    | (with_reducible refine o5_cl (by assumption) (fun _ _ => ?_))
    | (with_reducible refine o5_ap (by decide) (by assumption) (fun _ _ => ?_))
    | (with_reducible refine o8_vI hE (by decide) (by assumption) (fun _ _ => ?_))
    | (with_reducible refine o8_vV hE (by decide) (by assumption) (fun _ _ => ?_))
    | (with_reducible refine o8_vR hE (by decide) (by assumption) (fun _ _ => ?_))
    | (with_reducible refine o8_dI hE (by decide) (by assumption) (fun _ _ => ?_))
    | (with_reducible refine o8_dV hE (by decide) (by assumption) (fun _ _ => ?_))
    | (with_reducible refine o8_dR hE (by decide) (by assumption) (fun _ _ => ?_))
    | (with_reducible refine o8_nV hE (by decide) (by assumption) (fun _ _ => ?_))
    | (with_reducible refine o5_rd (fun _ => ?_)))
theorem n8_175_0 (hE : fE8 D) (o0 : Option Nat) (i1 : Int32) (i2 : Int32) (h : rm_H) (z : nF5 Hz h) : oK5 Hz (b175_0 L xs zf D w o0 i1 i2 h) := by
  unfold b175_0
  repeat' (first
    | with_reducible exact o5_dr (by assumption)
    | with_reducible exact o5_so (by assumption)
    | exact o5_none
    | with_reducible exact n8_175_46 hE _ _ _ _ (by assumption)
    | with_reducible refine o5_if ?_ ?_
    | (with_reducible refine o5_pF (by decide) (by assumption) (fun _ _ => ?_))
    | (with_reducible refine o5_sI (by assumption) (fun _ _ => ?_))
    | (with_reducible refine o5_sB (by assumption) (fun _ _ => ?_))
    | (with_reducible refine o5_sR (by assumption) (fun _ _ => ?_))
    | (with_reducible refine o8_nR (by assumption) (fun _ _ => ?_))
    | (with_reducible refine o5_nI (by assumption) (fun _ _ => ?_))
    | (with_reducible refine o5_cp (by assumption) (fun _ _ => ?_))
    | (with_reducible refine o5_cl (by assumption) (fun _ _ => ?_))
    | (with_reducible refine o5_ap (by decide) (by assumption) (fun _ _ => ?_))
    | (with_reducible refine o8_vI hE (by decide) (by assumption) (fun _ _ => ?_))
    | (with_reducible refine o8_vV hE (by decide) (by assumption) (fun _ _ => ?_))
    | (with_reducible refine o8_vR hE (by decide) (by assumption) (fun _ _ => ?_))
    | (with_reducible refine o8_dI hE (by decide) (by assumption) (fun _ _ => ?_))
    | (with_reducible refine o8_dV hE (by decide) (by assumption) (fun _ _ => ?_))
    | (with_reducible refine o8_dR hE (by decide) (by assumption) (fun _ _ => ?_))
    | (with_reducible refine o8_nV hE (by decide) (by assumption) (fun _ _ => ?_))
    | (with_reducible refine o5_rd (fun _ => ?_)))
theorem n8_176_0 (hE : fE8 D) (o0 : Option Nat) (i1 : Int32) (h : rm_H) (z : nF5 Hz h) : oK5 Hz (b176_0 L xs zf D w o0 i1 h) := by
  unfold b176_0
  repeat' (first
    | with_reducible exact o5_dr (by assumption)
    | with_reducible exact o5_so (by assumption)
    | exact o5_none
    | with_reducible refine o5_if ?_ ?_
    | (with_reducible refine o5_pF (by decide) (by assumption) (fun _ _ => ?_))
    | (with_reducible refine o5_sI (by assumption) (fun _ _ => ?_))
    | (with_reducible refine o5_sB (by assumption) (fun _ _ => ?_))
    | (with_reducible refine o5_sR (by assumption) (fun _ _ => ?_))
    | (with_reducible refine o8_nR (by assumption) (fun _ _ => ?_))
    | (with_reducible refine o5_nI (by assumption) (fun _ _ => ?_))
    | (with_reducible refine o5_cp (by assumption) (fun _ _ => ?_))
    | (with_reducible refine o5_cl (by assumption) (fun _ _ => ?_))
    | (with_reducible refine o5_ap (by decide) (by assumption) (fun _ _ => ?_))
    | (with_reducible refine o8_vI hE (by decide) (by assumption) (fun _ _ => ?_))
    | (with_reducible refine o8_vV hE (by decide) (by assumption) (fun _ _ => ?_))
    | (with_reducible refine o8_vR hE (by decide) (by assumption) (fun _ _ => ?_))
    | (with_reducible refine o8_dI hE (by decide) (by assumption) (fun _ _ => ?_))
    | (with_reducible refine o8_dV hE (by decide) (by assumption) (fun _ _ => ?_))
    | (with_reducible refine o8_dR hE (by decide) (by assumption) (fun _ _ => ?_))
    | (with_reducible refine o8_nV hE (by decide) (by assumption) (fun _ _ => ?_))
    | (with_reducible refine o5_rd (fun _ => ?_)))
theorem n8_177_46 (hE : fE8 D) (i2 : Int32) (s0 : Int32) (h : rm_H) (z : nF5 Hz h) : oK5 Hz (b177_46 L xs zf D w i2 s0 h) := by
  unfold b177_46
  repeat' (first
    | with_reducible exact o5_dr (by assumption)
    | with_reducible exact o5_so (by assumption)
    | exact o5_none
    | with_reducible refine o5_if ?_ ?_
    | (with_reducible refine o5_pF (by decide) (by assumption) (fun _ _ => ?_))
    | (with_reducible refine o5_sI (by assumption) (fun _ _ => ?_))
    | (with_reducible refine o5_sB (by assumption) (fun _ _ => ?_))
    | (with_reducible refine o5_sR (by assumption) (fun _ _ => ?_))
    | (with_reducible refine o8_nR (by assumption) (fun _ _ => ?_))
    | (with_reducible refine o5_nI (by assumption) (fun _ _ => ?_))
    | (with_reducible refine o5_cp (by assumption) (fun _ _ => ?_))
    | (with_reducible refine o5_cl (by assumption) (fun _ _ => ?_))
    | (with_reducible refine o5_ap (by decide) (by assumption) (fun _ _ => ?_))
    | (with_reducible refine o8_vI hE (by decide) (by assumption) (fun _ _ => ?_))
    | (with_reducible refine o8_vV hE (by decide) (by assumption) (fun _ _ => ?_))
    | (with_reducible refine o8_vR hE (by decide) (by assumption) (fun _ _ => ?_))
    | (with_reducible refine o8_dI hE (by decide) (by assumption) (fun _ _ => ?_))
    | (with_reducible refine o8_dV hE (by decide) (by assumption) (fun _ _ => ?_))
    | (with_reducible refine o8_dR hE (by decide) (by assumption) (fun _ _ => ?_))
    | (with_reducible refine o8_nV hE (by decide) (by assumption) (fun _ _ => ?_))
    | (with_reducible refine o5_rd (fun _ => ?_)))
theorem n8_177_80 (hE : fE8 D) (o0 : Option Nat) (i2 : Int32) (h : rm_H) (z : nF5 Hz h) : oK5 Hz (b177_80 L xs zf D w o0 i2 h) := by
  unfold b177_80
  repeat' (first
    | with_reducible exact o5_dr (by assumption)
    | with_reducible exact o5_so (by assumption)
    | exact o5_none
    | with_reducible refine o5_if ?_ ?_
    | (with_reducible refine o5_pF (by decide) (by assumption) (fun _ _ => ?_))
    | (with_reducible refine o5_sI (by assumption) (fun _ _ => ?_))
    | (with_reducible refine o5_sB (by assumption) (fun _ _ => ?_))
    | (with_reducible refine o5_sR (by assumption) (fun _ _ => ?_))
    | (with_reducible refine o8_nR (by assumption) (fun _ _ => ?_))
    | (with_reducible refine o5_nI (by assumption) (fun _ _ => ?_))
    | (with_reducible refine o5_cp (by assumption) (fun _ _ => ?_))
    | (with_reducible refine o5_cl (by assumption) (fun _ _ => ?_))
    | (with_reducible refine o5_ap (by decide) (by assumption) (fun _ _ => ?_))
    | (with_reducible refine o8_vI hE (by decide) (by assumption) (fun _ _ => ?_))
    | (with_reducible refine o8_vV hE (by decide) (by assumption) (fun _ _ => ?_))
    | (with_reducible refine o8_vR hE (by decide) (by assumption) (fun _ _ => ?_))
    | (with_reducible refine o8_dI hE (by decide) (by assumption) (fun _ _ => ?_))
    | (with_reducible refine o8_dV hE (by decide) (by assumption) (fun _ _ => ?_))
    | (with_reducible refine o8_dR hE (by decide) (by assumption) (fun _ _ => ?_))
    | (with_reducible refine o8_nV hE (by decide) (by assumption) (fun _ _ => ?_))
    | (with_reducible refine o5_rd (fun _ => ?_)))
theorem n8_177_0 (hE : fE8 D) (o0 : Option Nat) (o1 : Option Nat) (h : rm_H) (z : nF5 Hz h) : oK5 Hz (b177_0 L xs zf D w o0 o1 h) := by
  unfold b177_0
  repeat' (first
    | with_reducible exact o5_dr (by assumption)
    | with_reducible exact o5_so (by assumption)
    | exact o5_none
    | with_reducible exact n8_177_46 hE _ _ _ (by assumption)
    | with_reducible exact n8_177_80 hE _ _ _ (by assumption)
    | with_reducible refine o5_if ?_ ?_
    | (with_reducible refine o5_pF (by decide) (by assumption) (fun _ _ => ?_))
    | (with_reducible refine o5_sI (by assumption) (fun _ _ => ?_))
    | (with_reducible refine o5_sB (by assumption) (fun _ _ => ?_))
    | (with_reducible refine o5_sR (by assumption) (fun _ _ => ?_))
    | (with_reducible refine o8_nR (by assumption) (fun _ _ => ?_))
    | (with_reducible refine o5_nI (by assumption) (fun _ _ => ?_))
    | (with_reducible refine o5_cp (by assumption) (fun _ _ => ?_))
    | (with_reducible refine o5_cl (by assumption) (fun _ _ => ?_))
    | (with_reducible refine o5_ap (by decide) (by assumption) (fun _ _ => ?_))
    | (with_reducible refine o8_vI hE (by decide) (by assumption) (fun _ _ => ?_))
    | (with_reducible refine o8_vV hE (by decide) (by assumption) (fun _ _ => ?_))
    | (with_reducible refine o8_vR hE (by decide) (by assumption) (fun _ _ => ?_))
    | (with_reducible refine o8_dI hE (by decide) (by assumption) (fun _ _ => ?_))
    | (with_reducible refine o8_dV hE (by decide) (by assumption) (fun _ _ => ?_))
    | (with_reducible refine o8_dR hE (by decide) (by assumption) (fun _ _ => ?_))
    | (with_reducible refine o8_nV hE (by decide) (by assumption) (fun _ _ => ?_))
    | (with_reducible refine o5_rd (fun _ => ?_)))
theorem n8_178_26 (hE : fE8 D) (h : rm_H) (z : nF5 Hz h) : oK5 Hz (b178_26 L xs zf D w h) := by
  unfold b178_26
  repeat' (first
    | with_reducible exact o5_dr (by assumption)
    | with_reducible exact o5_so (by assumption)
    | exact o5_none
    | with_reducible refine o5_if ?_ ?_
    | (with_reducible refine o5_pF (by decide) (by assumption) (fun _ _ => ?_))
    | (with_reducible refine o5_sI (by assumption) (fun _ _ => ?_))
    | (with_reducible refine o5_sB (by assumption) (fun _ _ => ?_))
    | (with_reducible refine o5_sR (by assumption) (fun _ _ => ?_))
    | (with_reducible refine o8_nR (by assumption) (fun _ _ => ?_))
    | (with_reducible refine o5_nI (by assumption) (fun _ _ => ?_))
    | (with_reducible refine o5_cp (by assumption) (fun _ _ => ?_))
    | (with_reducible refine o5_cl (by assumption) (fun _ _ => ?_))
    | (with_reducible refine o5_ap (by decide) (by assumption) (fun _ _ => ?_))
    | (with_reducible refine o8_vI hE (by decide) (by assumption) (fun _ _ => ?_))
    | (with_reducible refine o8_vV hE (by decide) (by assumption) (fun _ _ => ?_))
    | (with_reducible refine o8_vR hE (by decide) (by assumption) (fun _ _ => ?_))
    | (with_reducible refine o8_dI hE (by decide) (by assumption) (fun _ _ => ?_))
    | (with_reducible refine o8_dV hE (by decide) (by assumption) (fun _ _ => ?_))
    | (with_reducible refine o8_dR hE (by decide) (by assumption) (fun _ _ => ?_))
    | (with_reducible refine o8_nV hE (by decide) (by assumption) (fun _ _ => ?_))
    | (with_reducible refine o5_rd (fun _ => ?_)))
theorem n8_178_0 (hE : fE8 D) (o0 : Option Nat) (i1 : Int32) (i2 : Int32) (h : rm_H) (z : nF5 Hz h) : oK5 Hz (b178_0 L xs zf D w o0 i1 i2 h) := by
  unfold b178_0
  repeat' (first
    | with_reducible exact o5_dr (by assumption)
    | with_reducible exact o5_so (by assumption)
    | exact o5_none
    | with_reducible exact n8_178_26 hE _ (by assumption)
    | with_reducible refine o5_if ?_ ?_
    | (with_reducible refine o5_pF (by decide) (by assumption) (fun _ _ => ?_))
    | (with_reducible refine o5_sI (by assumption) (fun _ _ => ?_))
    | (with_reducible refine o5_sB (by assumption) (fun _ _ => ?_))
    | (with_reducible refine o5_sR (by assumption) (fun _ _ => ?_))
    | (with_reducible refine o8_nR (by assumption) (fun _ _ => ?_))
    | (with_reducible refine o5_nI (by assumption) (fun _ _ => ?_))
    | (with_reducible refine o5_cp (by assumption) (fun _ _ => ?_))
    | (with_reducible refine o5_cl (by assumption) (fun _ _ => ?_))
    | (with_reducible refine o5_ap (by decide) (by assumption) (fun _ _ => ?_))
    | (with_reducible refine o8_vI hE (by decide) (by assumption) (fun _ _ => ?_))
    | (with_reducible refine o8_vV hE (by decide) (by assumption) (fun _ _ => ?_))
    | (with_reducible refine o8_vR hE (by decide) (by assumption) (fun _ _ => ?_))
    | (with_reducible refine o8_dI hE (by decide) (by assumption) (fun _ _ => ?_))
    | (with_reducible refine o8_dV hE (by decide) (by assumption) (fun _ _ => ?_))
    | (with_reducible refine o8_dR hE (by decide) (by assumption) (fun _ _ => ?_))
    | (with_reducible refine o8_nV hE (by decide) (by assumption) (fun _ _ => ?_))
    | (with_reducible refine o5_rd (fun _ => ?_)))
theorem n8_179_49 (hE : fE8 D) (o0 : Option Nat) (o3 : Option Nat) (h : rm_H) (z : nF5 Hz h) : oK5 Hz (b179_49 L xs zf D w o0 o3 h) := by
  unfold b179_49
  repeat' (first
    | with_reducible exact o5_dr (by assumption)
    | with_reducible exact o5_so (by assumption)
    | exact o5_none
    | with_reducible refine o5_if ?_ ?_
    | (with_reducible refine o5_pF (by decide) (by assumption) (fun _ _ => ?_))
    | (with_reducible refine o5_sI (by assumption) (fun _ _ => ?_))
    | (with_reducible refine o5_sB (by assumption) (fun _ _ => ?_))
    | (with_reducible refine o5_sR (by assumption) (fun _ _ => ?_))
    | (with_reducible refine o8_nR (by assumption) (fun _ _ => ?_))
    | (with_reducible refine o5_nI (by assumption) (fun _ _ => ?_))
    | (with_reducible refine o5_cp (by assumption) (fun _ _ => ?_))
    | (with_reducible refine o5_cl (by assumption) (fun _ _ => ?_))
    | (with_reducible refine o5_ap (by decide) (by assumption) (fun _ _ => ?_))
    | (with_reducible refine o8_vI hE (by decide) (by assumption) (fun _ _ => ?_))
    | (with_reducible refine o8_vV hE (by decide) (by assumption) (fun _ _ => ?_))
    | (with_reducible refine o8_vR hE (by decide) (by assumption) (fun _ _ => ?_))
    | (with_reducible refine o8_dI hE (by decide) (by assumption) (fun _ _ => ?_))
    | (with_reducible refine o8_dV hE (by decide) (by assumption) (fun _ _ => ?_))
    | (with_reducible refine o8_dR hE (by decide) (by assumption) (fun _ _ => ?_))
    | (with_reducible refine o8_nV hE (by decide) (by assumption) (fun _ _ => ?_))
    | (with_reducible refine o5_rd (fun _ => ?_)))
theorem n8_179_0 (hE : fE8 D) (o0 : Option Nat) (o1 : Option Nat) (h : rm_H) (z : nF5 Hz h) : oK5 Hz (b179_0 L xs zf D w o0 o1 h) := by
  unfold b179_0
  repeat' (first
    | with_reducible exact o5_dr (by assumption)
    | with_reducible exact o5_so (by assumption)
    | exact o5_none
    | with_reducible exact n8_179_49 hE _ _ _ (by assumption)
    | with_reducible refine o5_if ?_ ?_
    | (with_reducible refine o5_pF (by decide) (by assumption) (fun _ _ => ?_))
    | (with_reducible refine o5_sI (by assumption) (fun _ _ => ?_))
    | (with_reducible refine o5_sB (by assumption) (fun _ _ => ?_))
    | (with_reducible refine o5_sR (by assumption) (fun _ _ => ?_))
    | (with_reducible refine o8_nR (by assumption) (fun _ _ => ?_))
    | (with_reducible refine o5_nI (by assumption) (fun _ _ => ?_))
    | (with_reducible refine o5_cp (by assumption) (fun _ _ => ?_))
    | (with_reducible refine o5_cl (by assumption) (fun _ _ => ?_))
    | (with_reducible refine o5_ap (by decide) (by assumption) (fun _ _ => ?_))
    | (with_reducible refine o8_vI hE (by decide) (by assumption) (fun _ _ => ?_))
    | (with_reducible refine o8_vV hE (by decide) (by assumption) (fun _ _ => ?_))
    | (with_reducible refine o8_vR hE (by decide) (by assumption) (fun _ _ => ?_))
    | (with_reducible refine o8_dI hE (by decide) (by assumption) (fun _ _ => ?_))
    | (with_reducible refine o8_dV hE (by decide) (by assumption) (fun _ _ => ?_))
    | (with_reducible refine o8_dR hE (by decide) (by assumption) (fun _ _ => ?_))
    | (with_reducible refine o8_nV hE (by decide) (by assumption) (fun _ _ => ?_))
    | (with_reducible refine o5_rd (fun _ => ?_)))
theorem n8_180_0 (hE : fE8 D) (o0 : Option Nat) (o1 : Option Nat) (h : rm_H) (z : nF5 Hz h) : oK5 Hz (b180_0 L xs zf D w o0 o1 h) := by
  unfold b180_0
  repeat' (first
    | with_reducible exact o5_dr (by assumption)
    | with_reducible exact o5_so (by assumption)
    | exact o5_none
    | with_reducible refine o5_if ?_ ?_
    | (with_reducible refine o5_pF (by decide) (by assumption) (fun _ _ => ?_))
    | (with_reducible refine o5_sI (by assumption) (fun _ _ => ?_))
    | (with_reducible refine o5_sB (by assumption) (fun _ _ => ?_))
    | (with_reducible refine o5_sR (by assumption) (fun _ _ => ?_))
    | (with_reducible refine o8_nR (by assumption) (fun _ _ => ?_))
    | (with_reducible refine o5_nI (by assumption) (fun _ _ => ?_))
    | (with_reducible refine o5_cp (by assumption) (fun _ _ => ?_))
    | (with_reducible refine o5_cl (by assumption) (fun _ _ => ?_))
    | (with_reducible refine o5_ap (by decide) (by assumption) (fun _ _ => ?_))
    | (with_reducible refine o8_vI hE (by decide) (by assumption) (fun _ _ => ?_))
    | (with_reducible refine o8_vV hE (by decide) (by assumption) (fun _ _ => ?_))
    | (with_reducible refine o8_vR hE (by decide) (by assumption) (fun _ _ => ?_))
    | (with_reducible refine o8_dI hE (by decide) (by assumption) (fun _ _ => ?_))
    | (with_reducible refine o8_dV hE (by decide) (by assumption) (fun _ _ => ?_))
    | (with_reducible refine o8_dR hE (by decide) (by assumption) (fun _ _ => ?_))
    | (with_reducible refine o8_nV hE (by decide) (by assumption) (fun _ _ => ?_))
    | (with_reducible refine o5_rd (fun _ => ?_)))
theorem n8_181_2 (hE : fE8 D) : ∀ (n : Nat) (b0 : Option Nat) (b1 : Option Nat) (b2 : Int32) (h : rm_H), nF5 Hz h → oK5 Hz (b181_2 L xs zf D w n b0 b1 b2 h)
  | 0, _, _, _, _, _ => fun r s' e => by
    have e : (none : Option dR) = some (r, s') := e
    cases e
  | n + 1, b0, b1, b2, h, z => by
    have ih := n8_181_2 hE n
    unfold b181_2
    repeat' (first
      | with_reducible exact o5_dr (by assumption)
      | with_reducible exact o5_so (by assumption)
      | exact o5_none
      | with_reducible exact ih _ _ _ _ (by assumption)
      | with_reducible refine o5_if ?_ ?_
      | (with_reducible refine o5_pF (by decide) (by assumption) (fun _ _ => ?_))
      | (with_reducible refine o5_sI (by assumption) (fun _ _ => ?_))
      | (with_reducible refine o5_sB (by assumption) (fun _ _ => ?_))
      | (with_reducible refine o5_sR (by assumption) (fun _ _ => ?_))
      | (with_reducible refine o8_nR (by assumption) (fun _ _ => ?_))
      | (with_reducible refine o5_nI (by assumption) (fun _ _ => ?_))
      | (with_reducible refine o5_cp (by assumption) (fun _ _ => ?_))
      | (with_reducible refine o5_cl (by assumption) (fun _ _ => ?_))
      | (with_reducible refine o5_ap (by decide) (by assumption) (fun _ _ => ?_))
      | (with_reducible refine o8_vI hE (by decide) (by assumption) (fun _ _ => ?_))
      | (with_reducible refine o8_vV hE (by decide) (by assumption) (fun _ _ => ?_))
      | (with_reducible refine o8_vR hE (by decide) (by assumption) (fun _ _ => ?_))
      | (with_reducible refine o8_dI hE (by decide) (by assumption) (fun _ _ => ?_))
      | (with_reducible refine o8_dV hE (by decide) (by assumption) (fun _ _ => ?_))
      | (with_reducible refine o8_dR hE (by decide) (by assumption) (fun _ _ => ?_))
      | (with_reducible refine o8_nV hE (by decide) (by assumption) (fun _ _ => ?_))
      | (with_reducible refine o5_rd (fun _ => ?_)))
end N8B
