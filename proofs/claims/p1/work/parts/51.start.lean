/-! THE LAW'S START, 1: the classes and the array classes. -/
theorem ah_arrP {args : Array Value} {s : State} {ty : FieldType} (h : (Cond.arrayClass ty).before args s = true) (hr : ∀ c : ClassId, s.vm.findClass ("[" ++ ty.toString) = some c → va_RA s c ty) : ∃ c : ClassId, ArrOfT s c ty ∧ va_RA s c ty := by
  obtain ⟨c, k, comp, h1, h2, h3⟩ := Cond.arrayClass_spec (args := args) (first := s) (o := none) (s := s) (idx := []) h
  exact ⟨c, fun N z => ⟨(fun k h => by cases h), k, h2, comp, h3⟩, hr c h1⟩
theorem ah_arrO {args : Array Value} {s : State} {C : String} (h : (Cond.arrayOver (.object C)).before args s = true) : ∃ c : ClassId, ArrOfT s c (.object C) ∧ va_RA s c (.object C) := by
  obtain ⟨comp, c, k, h1, h2, h3, h4, h5⟩ := Cond.arrayOver_spec (args := args) (first := s) (o := none) (s := s) (idx := []) h
  exact ⟨c, fun N z => ⟨(fun k h => by cases h), k, h3, comp, h4⟩, k, comp, h3, h4, h1, h5⟩
set_option maxRecDepth 20000 in
theorem ah_K {args : Array Value} {s : State} (hts : ∀ w ∈ ah_Tg ++ ah_Tb, w.before args s = true) : ∃ (D : va_G) (cA : Nat → ClassId), va_K D ah_cl (rm_ty cA ah_TY) s := by
  obtain ⟨c0, j0, k0⟩ := u_known (C := "ActorHouse") (T := ah_T0) (N := 6) (n := 6) hts ac_0 (hts _ (ah_l tg_30))
  obtain ⟨c1, j1, k1⟩ := u_known (C := "java/lang/StringBuilder") (T := ah_T1) (N := 4) (n := 4) hts ac_1 (hts _ (ah_l tg_38))
  obtain ⟨c2, j2, k2⟩ := u_known (C := "ActorHouse$World") (T := ah_T2) (N := 16) (n := 16) hts ac_2 (hts _ (ah_l tg_71))
  obtain ⟨c3, j3, k3⟩ := u_known (C := "ActorHouse$Output") (T := ah_T3) (N := 7) (n := 7) hts ac_3 (hts _ (ah_l tg_140))
  obtain ⟨c4, j4, k4⟩ := u_known (C := "ActorHouse$Program") (T := ah_T4) (N := 12) (n := 12) hts ac_4 (hts _ (ah_l tg_327))
  obtain ⟨c5, j5, k5⟩ := u_known (C := "java/util/ArrayList") (T := ah_T5) (N := 3) (n := 3) hts ac_5 (hts _ (ah_l tg_333))
  obtain ⟨c6, j6, k6⟩ := u_known (C := "ActorHouse$Reader") (T := ah_T6) (N := 9) (n := 9) hts ac_6 (hts _ (ah_l tg_413))
  obtain ⟨c7, j7, k7⟩ := u_known (C := "java/lang/String") (T := ah_T7) (N := 4) (n := 4) hts ac_7 (hts _ (ah_l tg_419))
  obtain ⟨c8, j8, k8⟩ := u_known (C := "ActorHouse$Parser") (T := ah_T8) (N := 2) (n := 2) hts ac_8 (hts _ (ah_l tg_617))
  obtain ⟨c9, j9, k9⟩ := u_known (C := "ActorHouse$Kind") (T := ah_T9) (N := 7) (n := 7) hts ac_9 (hts _ (ah_l tg_642))
  obtain ⟨c10, j10, k10⟩ := u_known (C := "ActorHouse$Decl") (T := ah_T10) (N := 9) (n := 9) hts ac_10 (hts _ (ah_l tg_804))
  obtain ⟨c11, j11, k11⟩ := u_known (C := "ActorHouse$Method") (T := ah_T11) (N := 14) (n := 14) hts ac_11 (hts _ (ah_l tg_871))
  obtain ⟨c12, j12, k12⟩ := u_known (C := "ActorHouse$Node") (T := ah_T12) (N := 13) (n := 13) hts ac_12 (hts _ (ah_l tg_970))
  obtain ⟨c13, j13, k13⟩ := u_known (C := "ActorHouse$Checker") (T := ah_T13) (N := 7) (n := 7) hts ac_13 (hts _ (ah_l tg_1226))
  obtain ⟨c14, j14, k14⟩ := u_known (C := "ActorHouse$Actor") (T := ah_T14) (N := 14) (n := 14) hts ac_14 (hts _ (ah_l tg_1549))
  obtain ⟨c15, j15, k15⟩ := u_known (C := "ActorHouseModel") (T := ah_T15) (N := 115) (n := 115) hts ac_15 (hts _ (ah_l tg_1883))
  obtain ⟨c16, j16, k16⟩ := u_known (C := "java/lang/String") (T := ah_T16) (N := 2) (n := 4) hts ac_16 (hts _ (ah_l tg_419))
  obtain ⟨a0, f0, r0⟩ := ah_arrP (ty := .int) (hts _ (ah_l tg_138)) (fun _ h => h)
  obtain ⟨a1, f1, r1⟩ := ah_arrP (ty := .byte) (hts _ (ah_l tg_69)) (fun _ h => h)
  obtain ⟨a2, f2, r2⟩ := ah_arrP (ty := .long) (hts _ (ah_l tg_2238)) (fun _ h => h)
  obtain ⟨a3, f3, r3⟩ := ah_arrP (ty := .boolean) (hts _ (ah_l tg_2239)) (fun _ h => h)
  obtain ⟨a4, f4, r4⟩ := ah_arrO (C := "java/lang/Object") (hts _ (ah_r tb_787))
  obtain ⟨a5, f5, r5⟩ := ah_arrO (C := "ActorHouse$Actor") (hts _ (ah_r tb_77))
  obtain ⟨a6, f6, r6⟩ := ah_arrO (C := "ActorHouse$Decl") (hts _ (ah_r tb_1232))
  refine ⟨(fun k => match k with
    | 0 => c0
    | 1 => c1
    | 2 => c2
    | 3 => c3
    | 4 => c4
    | 5 => c5
    | 6 => c6
    | 7 => c7
    | 8 => c8
    | 9 => c9
    | 10 => c10
    | 11 => c11
    | 12 => c12
    | 13 => c13
    | 14 => c14
    | 15 => c15
    | _ => c16
    , fun k => match k with
    | 0 => j0
    | 1 => j1
    | 2 => j2
    | 3 => j3
    | 4 => j4
    | 5 => j5
    | 6 => j6
    | 7 => j7
    | 8 => j8
    | 9 => j9
    | 10 => j10
    | 11 => j11
    | 12 => j12
    | 13 => j13
    | 14 => j14
    | 15 => j15
    | _ => j16
    ), fun t => match t with
    | 0 => a0
    | 1 => a1
    | 2 => a2
    | 3 => a3
    | 4 => a4
    | 5 => a5
    | _ => a6
    , ah_each k0 k1 k2 k3 k4 k5 k6 k7 k8 k9 k10 k11 k12 k13 k14 k15 k16, ?_⟩
  intro k x h
  match k, h with
  | 0, h => cases h; exact ⟨f0, r0⟩
  | 1, h => cases h; exact ⟨f1, r1⟩
  | 2, h => cases h; exact ⟨f2, r2⟩
  | 3, h => cases h; exact ⟨f3, r3⟩
  | 4, h => cases h; exact ⟨f4, r4⟩
  | 5, h => cases h; exact ⟨f5, r5⟩
  | 6, h => cases h; exact ⟨f6, r6⟩
  | k + 7, h => simp [rm_ty, ah_TY] at h
