def f_M_become_69 (N : Nat) (iM : Nat → Int32) (aM : Nat → Nat → Int32) (k10 : Int32 → (Nat → Nat → Int32) → Option ((Nat → Int32) × (Nat → Nat → Int32))) (v1 : Int32) (v2 : Int32) (s1 : Int32) (s2 : Int32) (x_iM : Nat → Int32) (x_aM : Nat → Nat → Int32) : Option ((Nat → Int32) × (Nat → Nat → Int32)) := if s1 < 0 ∨ 400 ≤ s1.toNatClampNeg then none else (if v2 < 0 ∨ 400 ≤ v2.toNatClampNeg then none else ((f_M_moved ((((x_aM 10)) v2.toNatClampNeg))).bind fun q81 => (if v1 < 0 ∨ 400 ≤ v1.toNatClampNeg then none else ((f_M_moved ((((x_aM 13)) v2.toNatClampNeg))).bind fun q108 => (k10 ((v1 + (1 : Int32))) ((us x_aM [(9, (upd ((x_aM 9)) s1.toNatClampNeg s2)), (10, (upd ((x_aM 10)) v1.toNatClampNeg q81)), (11, (upd ((x_aM 11)) v1.toNatClampNeg ((((x_aM 11)) v2.toNatClampNeg)))), (13, (upd ((x_aM 13)) v1.toNatClampNeg q108))])))))))
def f_M_become_411 (N : Nat) (iM : Nat → Int32) (aM : Nat → Nat → Int32) (x_iM : Nat → Int32) : Nat → Int32 → (Nat → Nat → Int32) → Option ((Nat → Int32) × (Nat → Nat → Int32))
  | 0, _, _ => none
  | n + 1, v1, x_aM => if (9 : Int32) ≤ v1 then ((f_M_workOut N ((us x_iM [(37, (1 : Int32)), (66, (0 : Int32)), (68, (0 : Int32))])) x_aM).bind fun q517 => (some (q517.1, q517.2))) else (if ((9 : Int32) + v1) < 0 ∨ 18 ≤ (((9 : Int32) + v1)).toNatClampNeg then none else (if v1 < 0 ∨ 18 ≤ v1.toNatClampNeg then none else ((f_M_moved ((((x_aM 34)) (((9 : Int32) + v1)).toNatClampNeg))).bind fun q476 => (f_M_become_411 N iM aM x_iM n ((v1 + (1 : Int32))) ((us x_aM [(30, (upd ((x_aM 30)) v1.toNatClampNeg (vp_nar .boolean ((((x_aM 30)) (((9 : Int32) + v1)).toNatClampNeg))))), (32, (upd ((x_aM 32)) v1.toNatClampNeg ((((x_aM 32)) (((9 : Int32) + v1)).toNatClampNeg)))), (33, (upd ((x_aM 33)) v1.toNatClampNeg ((((x_aM 33)) (((9 : Int32) + v1)).toNatClampNeg)))), (34, (upd ((x_aM 34)) v1.toNatClampNeg q476)), (35, (upd ((x_aM 35)) v1.toNatClampNeg (vp_nar .boolean ((((x_aM 35)) (((9 : Int32) + v1)).toNatClampNeg)))))]))))))
def f_M_become_370 (N : Nat) (iM : Nat → Int32) (aM : Nat → Nat → Int32) (x_iM : Nat → Int32) : Nat → Int32 → (Nat → Nat → Int32) → Option ((Nat → Int32) × (Nat → Nat → Int32))
  | 0, _, _ => none
  | n + 1, v1, x_aM => if (3 : Int32) ≤ v1 then (f_M_become_411 N iM aM x_iM N ((0 : Int32)) x_aM) else (if ((3 : Int32) + v1) < 0 ∨ 6 ≤ (((3 : Int32) + v1)).toNatClampNeg then none else (if v1 < 0 ∨ 6 ≤ v1.toNatClampNeg then none else (f_M_become_370 N iM aM x_iM n ((v1 + (1 : Int32))) ((us x_aM [(27, (upd ((x_aM 27)) v1.toNatClampNeg ((((x_aM 27)) (((3 : Int32) + v1)).toNatClampNeg)))), (29, (upd ((x_aM 29)) v1.toNatClampNeg (vp_nar .boolean ((((x_aM 29)) (((3 : Int32) + v1)).toNatClampNeg)))))])))))
def f_M_become_343 (N : Nat) (iM : Nat → Int32) (aM : Nat → Nat → Int32) (x_iM : Nat → Int32) : Nat → Int32 → (Nat → Nat → Int32) → Option ((Nat → Int32) × (Nat → Nat → Int32))
  | 0, _, _ => none
  | n + 1, v1, x_aM => if (5 : Int32) ≤ v1 then (f_M_become_370 N iM aM x_iM N ((0 : Int32)) x_aM) else (if ((5 : Int32) + v1) < 0 ∨ 10 ≤ (((5 : Int32) + v1)).toNatClampNeg then none else (if v1 < 0 ∨ 10 ≤ v1.toNatClampNeg then none else (f_M_become_343 N iM aM x_iM n ((v1 + (1 : Int32))) ((us x_aM [(24, (upd ((x_aM 24)) v1.toNatClampNeg ((((x_aM 24)) (((5 : Int32) + v1)).toNatClampNeg))))])))))
def f_M_become_314 (N : Nat) (iM : Nat → Int32) (aM : Nat → Nat → Int32) (x_iM : Nat → Int32) : Nat → Int32 → (Nat → Nat → Int32) → Option ((Nat → Int32) × (Nat → Nat → Int32))
  | 0, _, _ => none
  | n + 1, v1, x_aM => if (24 : Int32) ≤ v1 then (f_M_become_343 N iM aM x_iM N ((0 : Int32)) x_aM) else (if ((24 : Int32) + v1) < 0 ∨ 48 ≤ (((24 : Int32) + v1)).toNatClampNeg then none else (if v1 < 0 ∨ 48 ≤ v1.toNatClampNeg then none else (f_M_become_314 N iM aM x_iM n ((v1 + (1 : Int32))) ((us x_aM [(26, (upd ((x_aM 26)) v1.toNatClampNeg (vp_nar .byte ((((x_aM 26)) (((24 : Int32) + v1)).toNatClampNeg)))))])))))
def f_M_become_285 (N : Nat) (iM : Nat → Int32) (aM : Nat → Nat → Int32) (x_iM : Nat → Int32) : Nat → Int32 → (Nat → Nat → Int32) → Option ((Nat → Int32) × (Nat → Nat → Int32))
  | 0, _, _ => none
  | n + 1, v1, x_aM => if (40 : Int32) ≤ v1 then (f_M_become_314 N iM aM x_iM N ((0 : Int32)) x_aM) else (if ((40 : Int32) + v1) < 0 ∨ 80 ≤ (((40 : Int32) + v1)).toNatClampNeg then none else (if v1 < 0 ∨ 80 ≤ v1.toNatClampNeg then none else (f_M_become_285 N iM aM x_iM n ((v1 + (1 : Int32))) ((us x_aM [(23, (upd ((x_aM 23)) v1.toNatClampNeg (vp_nar .byte ((((x_aM 23)) (((40 : Int32) + v1)).toNatClampNeg)))))])))))
def f_M_become_238 (N : Nat) (iM : Nat → Int32) (aM : Nat → Nat → Int32) (x_iM : Nat → Int32) : Nat → Int32 → (Nat → Nat → Int32) → Option ((Nat → Int32) × (Nat → Nat → Int32))
  | 0, _, _ => none
  | n + 1, v1, x_aM => if (12 : Int32) ≤ v1 then (f_M_become_285 N iM aM x_iM N ((0 : Int32)) x_aM) else (if ((12 : Int32) + v1) < 0 ∨ 24 ≤ (((12 : Int32) + v1)).toNatClampNeg then none else (if v1 < 0 ∨ 24 ≤ v1.toNatClampNeg then none else ((f_M_moved ((((x_aM 21)) (((12 : Int32) + v1)).toNatClampNeg))).bind fun q273 => (f_M_become_238 N iM aM x_iM n ((v1 + (1 : Int32))) ((us x_aM [(19, (upd ((x_aM 19)) v1.toNatClampNeg ((((x_aM 19)) (((12 : Int32) + v1)).toNatClampNeg)))), (21, (upd ((x_aM 21)) v1.toNatClampNeg q273))]))))))
def f_M_become_128 (N : Nat) (iM : Nat → Int32) (aM : Nat → Nat → Int32) (x_iM : Nat → Int32) : Nat → Int32 → (Nat → Nat → Int32) → Option ((Nat → Int32) × (Nat → Nat → Int32))
  | 0, _, _ => none
  | n + 1, v1, x_aM => if (x_iM 18) ≤ v1 then (f_M_become_238 N iM aM ((us x_iM [(20, (x_iM 41)), (22, (x_iM 42)), (25, (x_iM 43)), (28, (x_iM 44)), (36, (x_iM 45))])) N ((0 : Int32)) x_aM) else (if ((250 : Int32) + v1) < 0 ∨ 500 ≤ (((250 : Int32) + v1)).toNatClampNeg then none else (if v1 < 0 ∨ 500 ≤ v1.toNatClampNeg then none else ((f_M_moved ((((x_aM 16)) (((250 : Int32) + v1)).toNatClampNeg))).bind fun q167 => ((f_M_moved ((((x_aM 17)) (((250 : Int32) + v1)).toNatClampNeg))).bind fun q186 => (f_M_become_128 N iM aM x_iM n ((v1 + (1 : Int32))) ((us x_aM [(15, (upd ((x_aM 15)) v1.toNatClampNeg ((((x_aM 15)) (((250 : Int32) + v1)).toNatClampNeg)))), (16, (upd ((x_aM 16)) v1.toNatClampNeg q167)), (17, (upd ((x_aM 17)) v1.toNatClampNeg q186))])))))))
def f_M_become_10 (N : Nat) (iM : Nat → Int32) (aM : Nat → Nat → Int32) (x_iM : Nat → Int32) : Nat → Int32 → (Nat → Nat → Int32) → Option ((Nat → Int32) × (Nat → Nat → Int32))
  | 0, _, _ => none
  | n + 1, v1, x_aM => if (x_iM 14) ≤ v1 then (f_M_become_128 N iM aM ((us x_iM [(18, (x_iM 40))])) N ((0 : Int32)) x_aM) else (if ((200 : Int32) + v1) < 0 ∨ 400 ≤ (((200 : Int32) + v1)).toNatClampNeg then none else (if v1 < 0 ∨ 400 ≤ v1.toNatClampNeg then none else (if (((upd ((x_aM 8)) v1.toNatClampNeg ((((x_aM 8)) (((200 : Int32) + v1)).toNatClampNeg)))) (((200 : Int32) + v1)).toNatClampNeg) ≤ (5 : Int32) then (f_M_become_69 N iM aM (f_M_become_10 N iM aM x_iM n) v1 (((200 : Int32) + v1)) v1 ((((x_aM 9)) (((200 : Int32) + v1)).toNatClampNeg)) x_iM ((us x_aM [(8, (upd ((x_aM 8)) v1.toNatClampNeg ((((x_aM 8)) (((200 : Int32) + v1)).toNatClampNeg))))]))) else ((f_M_moved ((((x_aM 9)) (((200 : Int32) + v1)).toNatClampNeg))).bind fun q57 => (f_M_become_69 N iM aM (f_M_become_10 N iM aM x_iM n) v1 (((200 : Int32) + v1)) v1 q57 x_iM ((us x_aM [(8, (upd ((x_aM 8)) v1.toNatClampNeg ((((x_aM 8)) (((200 : Int32) + v1)).toNatClampNeg))))])))))))
def f_M_become (N : Nat) (iM : Nat → Int32) (aM : Nat → Nat → Int32) : Option ((Nat → Int32) × (Nat → Nat → Int32)) := f_M_become_10 N iM aM ((us iM [(14, (iM 38))])) N ((0 : Int32)) aM
set_option maxHeartbeats 8000000 in
set_option maxRecDepth 100000 in
theorem c_M_become (l : Launch) (dC : Nat → ClassId) (dI : Nat → Nat → Nat) (cy : Nat → ClassId) (ad : Nat → Nat) (sz : Nat) (N : Nat) (iM : Nat → Int32) (aM : Nat → Nat → Int32) (q : (Nat → Int32) × (Nat → Nat → Int32)) (h : f_M_become N iM aM = some q) : Met l yX8_become wsX8_become ({ frames := 5, cells := 0, slots := 0, locals := 120 } : Room) (cP (dC, dI) cy [.ref (ad 0)] (zzM ad cy iM aM) sz) (cQv (dC, dI) cy (zzM ad cy q.1 q.2) (va_A (zzM ad cy iM aM) sz)) 0 0 (va_A (zzM ad cy iM aM) sz) := by
  refine Met.ofW (cc := cX8_become) (maxL := 3) (ret := none) (by decide) rfl ?_
  intro p e s m args below meth c s₁ B hml hv
  obtain ⟨hav, hsz, hP, hK, hD0, hN⟩ := hv
  have hx := B.exec
  have hb := B.bytes
  have hr := B.returns
  have hts := atoms_spec (ws := wsX8_become) B.pre
  have hown : s.vm.findClass RX8 = some m.cls := findClass_of_methodNamed B.named
  have hlocks := B.notSynchronized
  subst hsz
  have hD := hD0.self (sz := s.heap.size)
  generalize hAe : va_A (zzM ad cy iM aM) s.heap.size = A at hD ⊢
  have hA : ∀ q : Nat, s.heap.size ≤ q → A q := fun q h => by rw [← hAe]; exact Or.inr h
  have hS : va_S A s.heap s.heap [] := va_S.rf
  generalize hWQ : (zzM ad cy q.1 q.2) = WQ
  generalize hQQ : MQ below (cQv (dC, dI) cy WQ A) args s 0 0 A = QQ
  have hl := lv_entry ([.ref (ad 0)] : List Value) (n := 3) (Nat.le_of_ble_eq_true rfl)
  have hfr := lg_entry_eq m ([.ref (ad 0)] : List Value) 3
  rw [← hav] at hfr
  rw [hfr]
  clear hfr hav
  generalize (lg_sl ([.ref (ad 0)] : List Value) ++ List.replicate (3 - (lg_sl ([.ref (ad 0)] : List Value)).length) Slot.unset).toArray = ls at hl ⊢
  have hl : lv_has ls 3 [(0, .ref (ad 0))] := hl
  have kf24 := hts _ (List.mem_cons_of_mem _ m_fl_X8_24)
  have ki8 := (fun w h => List.mem_cons_of_mem _ (i_X8 w h) : ∀ w ∈ u_ws RX8 TX8 78, w ∈ wsX8_become)
  have kf27 := hts _ (List.mem_cons_of_mem _ m_fl_X8_27)
  have kf33 := hts _ (List.mem_cons_of_mem _ m_fl_X8_33)
  have kf356 := hts _ (List.mem_cons_of_mem _ m_fl_X8_356)
  have kf359 := hts _ (List.mem_cons_of_mem _ m_fl_X8_359)
  have kf362 := hts _ (List.mem_cons_of_mem _ m_fl_X8_362)
  have kf67 := hts _ (List.mem_cons_of_mem _ m_fl_X8_67)
  have kf73 := hts _ (List.mem_cons_of_mem _ m_fl_X8_73)
  have kf76 := hts _ (List.mem_cons_of_mem _ m_fl_X8_76)
  have kf79 := hts _ (List.mem_cons_of_mem _ m_fl_X8_79)
  have kf82 := hts _ (List.mem_cons_of_mem _ m_fl_X8_82)
  have kf60 := hts _ (List.mem_cons_of_mem _ m_fl_X8_60)
  have kf63 := hts _ (List.mem_cons_of_mem _ m_fl_X8_63)
  have kf54 := hts _ (List.mem_cons_of_mem _ m_fl_X8_54)
  have kf57 := hts _ (List.mem_cons_of_mem _ m_fl_X8_57)
  have kf51 := hts _ (List.mem_cons_of_mem _ m_fl_X8_51)
  have kf45 := hts _ (List.mem_cons_of_mem _ m_fl_X8_45)
  have kf48 := hts _ (List.mem_cons_of_mem _ m_fl_X8_48)
  have kf338 := hts _ (List.mem_cons_of_mem _ m_fl_X8_338)
  have kf311 := hts _ (List.mem_cons_of_mem _ m_fl_X8_311)
  have kf341 := hts _ (List.mem_cons_of_mem _ m_fl_X8_341)
  have kf305 := hts _ (List.mem_cons_of_mem _ m_fl_X8_305)
  have kf344 := hts _ (List.mem_cons_of_mem _ m_fl_X8_344)
  have kf214 := hts _ (List.mem_cons_of_mem _ m_fl_X8_214)
  have kf347 := hts _ (List.mem_cons_of_mem _ m_fl_X8_347)
  have kf221 := hts _ (List.mem_cons_of_mem _ m_fl_X8_221)
  have kf350 := hts _ (List.mem_cons_of_mem _ m_fl_X8_350)
  have kf234 := hts _ (List.mem_cons_of_mem _ m_fl_X8_234)
  have kf353 := hts _ (List.mem_cons_of_mem _ m_fl_X8_353)
  have kf36 := hts _ (List.mem_cons_of_mem _ m_fl_X8_36)
  have kf39 := hts _ (List.mem_cons_of_mem _ m_fl_X8_39)
  have kf42 := hts _ (List.mem_cons_of_mem _ m_fl_X8_42)
  have kf332 := hts _ (List.mem_cons_of_mem _ m_fl_X8_332)
  have kf295 := hts _ (List.mem_cons_of_mem _ m_fl_X8_295)
  have kf17 := hts _ (List.mem_cons_of_mem _ m_fl_X8_17)
  have kf21 := hts _ (List.mem_cons_of_mem _ m_fl_X8_21)
  have kf211 := hts _ (List.mem_cons_of_mem _ m_fl_X8_211)
  refine (?_ : ∀ (H : Heap) (locs : List Loc), va_P (dC, dI) vwCl (zzM ad cy iM aM) H → va_D A (zzM ad cy iM aM) → va_S A s.heap H locs → W p l e ({ frames := 5, cells := 0, slots := 0, locals := 120 } : Room) s m args below meth c H locs 0 0 QQ (F0 m 0 ls [])) s.heap [] hP hD hS
  clear hP hD hS
  have B69 : ∀ (v1 : Int32) (v2 : Int32) (s1 : Int32) (s2 : Int32) (x_iM : Nat → Int32) (x_aM : Nat → Nat → Int32) (k10 : Int32 → (Nat → Nat → Int32) → Option ((Nat → Int32) × (Nat → Nat → Int32))) (hk10 : ∀ (v1' : Int32) (x_aM' : Nat → Nat → Int32) (H : Heap) (locs : List Loc) (ls : Array Slot), k10 v1' x_aM' = some q → va_P (dC, dI) vwCl (zzM ad cy x_iM x_aM') H → va_D A (zzM ad cy x_iM x_aM') → va_S A s.heap H locs → lv_has ls 3 [(0, .ref (ad 0)), (1, .int v1')] → W p l e ({ frames := 5, cells := 0, slots := 0, locals := 120 } : Room) s m args below meth c H locs 0 0 QQ (F0 m 10 ls [])) (H : Heap) (locs : List Loc) (ls : Array Slot), f_M_become_69 N iM aM k10 v1 v2 s1 s2 x_iM x_aM = some q → va_P (dC, dI) vwCl (zzM ad cy x_iM x_aM) H → va_D A (zzM ad cy x_iM x_aM) → va_S A s.heap H locs → lv_has ls 3 [(0, .ref (ad 0)), (1, .int v1), (2, .int v2)] → W p l e ({ frames := 5, cells := 0, slots := 0, locals := 120 } : Room) s m args below meth c H locs 0 0 QQ (F0 m 69 ls [.int s2, .int s1, .ref (ad 4)]) := by
    intro v1 v2 s1 s2 x_iM x_aM k10 hk10 H locs ls h hP hD hS hl
    unfold f_M_become_69 at h
    obtain ⟨g_115, h⟩ := g_n h
    refine va_iast (f := (x_aM 9)) hx hb hK hP hD hS 4 0 rfl rfl g_115 dX8_become_69 (fun H locs hP hD hS => ?_)
    have hP : va_P (dC, dI) vwCl (zzM ad cy x_iM (us x_aM [(9, (upd ((x_aM 9)) s1.toNatClampNeg s2))])) H := Eq.mp (congrArg (fun w => va_P (dC, dI) vwCl w H) (sfM_aM9 ad cy x_iM x_aM ((upd ((x_aM 9)) s1.toNatClampNeg s2)))) hP
    have hD : va_D A (zzM ad cy x_iM (us x_aM [(9, (upd ((x_aM 9)) s1.toNatClampNeg s2))])) := Eq.mp (congrArg (fun w => va_D A w) (sfM_aM9 ad cy x_iM x_aM ((upd ((x_aM 9)) s1.toNatClampNeg s2)))) hD
    refine lv_aload_n hx hb dX8_become_70 rfl (lv_at hl 0 rfl) ?_
    refine va_get (D := (dC, dI)) (ci := 8) (v := .ref (ad 5)) (C := RX8) (T := TX8) (N := 78) hx hb hts ki8 hown hK hP 0 rfl rfl 10 (by decide) kf24 (fun _ h9 => h9) rfl dX8_become_71 ?_
    refine lv_iload_n hx hb dX8_become_74 rfl (lv_at hl 1 rfl) ?_
    refine lv_aload_n hx hb dX8_become_75 rfl (lv_at hl 0 rfl) ?_
    refine va_get (D := (dC, dI)) (ci := 8) (v := .ref (ad 5)) (C := RX8) (T := TX8) (N := 78) hx hb hts ki8 hown hK hP 0 rfl rfl 10 (by decide) kf24 (fun _ h9 => h9) rfl dX8_become_76 ?_
    refine lv_iload_n hx hb dX8_become_79 rfl (lv_at hl 2 rfl) ?_
    obtain ⟨g_101, h⟩ := g_n h
    refine va_iald (f := (x_aM 10)) hx hb hK hP 5 0 rfl rfl g_101 dX8_become_80 ?_
    obtain ⟨q81, e81, h⟩ := g_b h
    refine callSi (cc := cX8_become) (ws' := zzM ad cy x_iM (us x_aM [(9, (upd ((x_aM 9)) s1.toNatClampNeg s2))])) (As := [.int ((((x_aM 10)) v2.toNatClampNeg))]) (rest := [.int v1, .ref (ad 5)]) ⟨hx, hb, hml, hown, hts⟩ (c_M_moved l dC dI cy ad H.size ((((x_aM 10)) v2.toNatClampNeg)) q81 e81) (va_cwS 1 hts (goodS m_ml_X8_335 m_st_X8_moved m_in_X8 m_cd_X8_moved) rfl rfl rfl (by decide +kernel) ⟨Nat.le_of_ble_eq_true rfl, Nat.le_of_ble_eq_true rfl⟩) hN hK hP hD hS hA [] [none, none, none, none, none, none, none, none, none, none, none, none, none, none, none, none, none, none, none, none, none, none, none, none, none, none, none, none, none, none, none, none, none, none, none, none, none, none, none, none, none, none, none, none] rfl rfl rfl rfl rfl rfl rfl hl.1 rfl (Nat.le_of_ble_eq_true rfl) dX8_become_81 ⟨Nat.zero_le _, Nat.zero_le _⟩ (fun H locs hP hD hS => ?_)
    obtain ⟨g_62, h⟩ := g_n h
    refine va_iast (f := (x_aM 10)) hx hb hK hP hD hS 5 0 rfl rfl g_62 dX8_become_84 (fun H locs hP hD hS => ?_)
    have hP : va_P (dC, dI) vwCl (zzM ad cy x_iM (us x_aM [(9, (upd ((x_aM 9)) s1.toNatClampNeg s2)), (10, (upd ((x_aM 10)) v1.toNatClampNeg q81))])) H := Eq.mp (congrArg (fun w => va_P (dC, dI) vwCl w H) (stM_aM10 ad cy x_iM x_aM [(9, (upd ((x_aM 9)) s1.toNatClampNeg s2))] ((upd ((x_aM 10)) v1.toNatClampNeg q81)))) hP
    have hD : va_D A (zzM ad cy x_iM (us x_aM [(9, (upd ((x_aM 9)) s1.toNatClampNeg s2)), (10, (upd ((x_aM 10)) v1.toNatClampNeg q81))])) := Eq.mp (congrArg (fun w => va_D A w) (stM_aM10 ad cy x_iM x_aM [(9, (upd ((x_aM 9)) s1.toNatClampNeg s2))] ((upd ((x_aM 10)) v1.toNatClampNeg q81)))) hD
    refine lv_aload_n hx hb dX8_become_85 rfl (lv_at hl 0 rfl) ?_
    refine va_get (D := (dC, dI)) (ci := 8) (v := .ref (ad 6)) (C := RX8) (T := TX8) (N := 78) hx hb hts ki8 hown hK hP 0 rfl rfl 11 (by decide) kf27 (fun _ h9 => h9) rfl dX8_become_86 ?_
    refine lv_iload_n hx hb dX8_become_89 rfl (lv_at hl 1 rfl) ?_
    refine lv_aload_n hx hb dX8_become_90 rfl (lv_at hl 0 rfl) ?_
    refine va_get (D := (dC, dI)) (ci := 8) (v := .ref (ad 6)) (C := RX8) (T := TX8) (N := 78) hx hb hts ki8 hown hK hP 0 rfl rfl 11 (by decide) kf27 (fun _ h9 => h9) rfl dX8_become_91 ?_
    refine lv_iload_n hx hb dX8_become_94 rfl (lv_at hl 2 rfl) ?_
    refine va_iald (f := (x_aM 11)) hx hb hK hP 6 0 rfl rfl g_101 dX8_become_95 ?_
    refine va_iast (f := (x_aM 11)) hx hb hK hP hD hS 6 0 rfl rfl g_62 dX8_become_96 (fun H locs hP hD hS => ?_)
    have hP : va_P (dC, dI) vwCl (zzM ad cy x_iM (us x_aM [(9, (upd ((x_aM 9)) s1.toNatClampNeg s2)), (10, (upd ((x_aM 10)) v1.toNatClampNeg q81)), (11, (upd ((x_aM 11)) v1.toNatClampNeg ((((x_aM 11)) v2.toNatClampNeg))))])) H := Eq.mp (congrArg (fun w => va_P (dC, dI) vwCl w H) (stM_aM11 ad cy x_iM x_aM [(9, (upd ((x_aM 9)) s1.toNatClampNeg s2)), (10, (upd ((x_aM 10)) v1.toNatClampNeg q81))] ((upd ((x_aM 11)) v1.toNatClampNeg ((((x_aM 11)) v2.toNatClampNeg)))))) hP
    have hD : va_D A (zzM ad cy x_iM (us x_aM [(9, (upd ((x_aM 9)) s1.toNatClampNeg s2)), (10, (upd ((x_aM 10)) v1.toNatClampNeg q81)), (11, (upd ((x_aM 11)) v1.toNatClampNeg ((((x_aM 11)) v2.toNatClampNeg))))])) := Eq.mp (congrArg (fun w => va_D A w) (stM_aM11 ad cy x_iM x_aM [(9, (upd ((x_aM 9)) s1.toNatClampNeg s2)), (10, (upd ((x_aM 10)) v1.toNatClampNeg q81))] ((upd ((x_aM 11)) v1.toNatClampNeg ((((x_aM 11)) v2.toNatClampNeg)))))) hD
    refine lv_aload_n hx hb dX8_become_97 rfl (lv_at hl 0 rfl) ?_
    refine va_get (D := (dC, dI)) (ci := 8) (v := .ref (ad 8)) (C := RX8) (T := TX8) (N := 78) hx hb hts ki8 hown hK hP 0 rfl rfl 13 (by decide) kf33 (fun _ h9 => h9) rfl dX8_become_98 ?_
    refine lv_iload_n hx hb dX8_become_101 rfl (lv_at hl 1 rfl) ?_
    refine lv_aload_n hx hb dX8_become_102 rfl (lv_at hl 0 rfl) ?_
    refine va_get (D := (dC, dI)) (ci := 8) (v := .ref (ad 8)) (C := RX8) (T := TX8) (N := 78) hx hb hts ki8 hown hK hP 0 rfl rfl 13 (by decide) kf33 (fun _ h9 => h9) rfl dX8_become_103 ?_
    refine lv_iload_n hx hb dX8_become_106 rfl (lv_at hl 2 rfl) ?_
    refine va_iald (f := (x_aM 13)) hx hb hK hP 8 0 rfl rfl g_101 dX8_become_107 ?_
    obtain ⟨q108, e108, h⟩ := g_b h
    refine callSi (cc := cX8_become) (ws' := zzM ad cy x_iM (us x_aM [(9, (upd ((x_aM 9)) s1.toNatClampNeg s2)), (10, (upd ((x_aM 10)) v1.toNatClampNeg q81)), (11, (upd ((x_aM 11)) v1.toNatClampNeg ((((x_aM 11)) v2.toNatClampNeg))))])) (As := [.int ((((x_aM 13)) v2.toNatClampNeg))]) (rest := [.int v1, .ref (ad 8)]) ⟨hx, hb, hml, hown, hts⟩ (c_M_moved l dC dI cy ad H.size ((((x_aM 13)) v2.toNatClampNeg)) q108 e108) (va_cwS 1 hts (goodS m_ml_X8_335 m_st_X8_moved m_in_X8 m_cd_X8_moved) rfl rfl rfl (by decide +kernel) ⟨Nat.le_of_ble_eq_true rfl, Nat.le_of_ble_eq_true rfl⟩) hN hK hP hD hS hA [] [none, none, none, none, none, none, none, none, none, none, none, none, none, none, none, none, none, none, none, none, none, none, none, none, none, none, none, none, none, none, none, none, none, none, none, none, none, none, none, none, none, none, none, none] rfl rfl rfl rfl rfl rfl rfl hl.1 rfl (Nat.le_of_ble_eq_true rfl) dX8_become_108 ⟨Nat.zero_le _, Nat.zero_le _⟩ (fun H locs hP hD hS => ?_)
    refine va_iast (f := (x_aM 13)) hx hb hK hP hD hS 8 0 rfl rfl g_62 dX8_become_111 (fun H locs hP hD hS => ?_)
    have hP : va_P (dC, dI) vwCl (zzM ad cy x_iM (us x_aM [(9, (upd ((x_aM 9)) s1.toNatClampNeg s2)), (10, (upd ((x_aM 10)) v1.toNatClampNeg q81)), (11, (upd ((x_aM 11)) v1.toNatClampNeg ((((x_aM 11)) v2.toNatClampNeg)))), (13, (upd ((x_aM 13)) v1.toNatClampNeg q108))])) H := Eq.mp (congrArg (fun w => va_P (dC, dI) vwCl w H) (stM_aM13 ad cy x_iM x_aM [(9, (upd ((x_aM 9)) s1.toNatClampNeg s2)), (10, (upd ((x_aM 10)) v1.toNatClampNeg q81)), (11, (upd ((x_aM 11)) v1.toNatClampNeg ((((x_aM 11)) v2.toNatClampNeg))))] ((upd ((x_aM 13)) v1.toNatClampNeg q108)))) hP
    have hD : va_D A (zzM ad cy x_iM (us x_aM [(9, (upd ((x_aM 9)) s1.toNatClampNeg s2)), (10, (upd ((x_aM 10)) v1.toNatClampNeg q81)), (11, (upd ((x_aM 11)) v1.toNatClampNeg ((((x_aM 11)) v2.toNatClampNeg)))), (13, (upd ((x_aM 13)) v1.toNatClampNeg q108))])) := Eq.mp (congrArg (fun w => va_D A w) (stM_aM13 ad cy x_iM x_aM [(9, (upd ((x_aM 9)) s1.toNatClampNeg s2)), (10, (upd ((x_aM 10)) v1.toNatClampNeg q81)), (11, (upd ((x_aM 11)) v1.toNatClampNeg ((((x_aM 11)) v2.toNatClampNeg))))] ((upd ((x_aM 13)) v1.toNatClampNeg q108)))) hD
    refine lv_iinc (v := (v1 + (1 : Int32))) (lv' := [(1, .int ((v1 + (1 : Int32)))), (0, .ref (ad 0)), (2, .int v2)]) hx hb dX8_become_112 hl (k := 1) rfl rfl (by decide) rfl (fun ls hl => ?_)
    refine lv_goto (tgt := 10) hx hb dX8_become_115 (by decide) ?_
    exact hk10 ((v1 + (1 : Int32))) ((us x_aM [(9, (upd ((x_aM 9)) s1.toNatClampNeg s2)), (10, (upd ((x_aM 10)) v1.toNatClampNeg q81)), (11, (upd ((x_aM 11)) v1.toNatClampNeg ((((x_aM 11)) v2.toNatClampNeg)))), (13, (upd ((x_aM 13)) v1.toNatClampNeg q108))])) H locs ls h hP hD hS (lv_sub hl [1, 0] rfl)
  have B411 : ∀ (n : Nat) (x_iM : Nat → Int32) (v1 : Int32) (x_aM : Nat → Nat → Int32) (H : Heap) (locs : List Loc) (ls : Array Slot), f_M_become_411 N iM aM x_iM n v1 x_aM = some q → va_P (dC, dI) vwCl (zzM ad cy x_iM x_aM) H → va_D A (zzM ad cy x_iM x_aM) → va_S A s.heap H locs → lv_has ls 3 [(0, .ref (ad 0)), (1, .int v1)] → W p l e ({ frames := 5, cells := 0, slots := 0, locals := 120 } : Room) s m args below meth c H locs 0 0 QQ (F0 m 411 ls []) := by
    intro n
    induction n with
    | zero =>
      intro x_iM v1 x_aM H locs ls h hP hD hS hl
      rw [f_M_become_411] at h
      cases h
    | succ n ih =>
      intro x_iM v1 x_aM H locs ls h hP hD hS hl
      rw [f_M_become_411] at h
      refine lv_iload_n hx hb dX8_become_411 rfl (lv_at hl 1 rfl) ?_
      refine lv_bipush (v := 9) hx hb dX8_become_412 (by decide) ?_
      refine lv_icmp_ge (tgt := 501) hx hb dX8_become_414 (by decide) (fun cz => ?_) (fun cz => ?_)
      · have h := g_t h cz
        refine lv_aload_n hx hb dX8_become_501 rfl (lv_at hl 0 rfl) ?_
        refine lv_iconst (v := 1) hx hb dX8_become_502 (by decide) ?_
        refine va_put (D := (dC, dI)) (ci := 8) (v := .int ((1 : Int32))) (ty := .boolean) (C := RX8) (T := TX8) (N := 78) hx hb hts ki8 tyX8 tyX8_ok nmX8 hown hK hP hD hS 0 rfl rfl 37 (by decide) kf356 (fun _ h9 => h9) rfl (by decide +kernel) rfl rfl (Nat.le_of_ble_eq_true rfl) dX8_become_503 (fun H locs hP hD hS => ?_)
        have hP : va_P (dC, dI) vwCl (zzM ad cy (us x_iM [(37, (1 : Int32))]) x_aM) H := Eq.mp (congrArg (fun w => va_P (dC, dI) vwCl w H) (sfM_iM37 ad cy x_iM x_aM ((1 : Int32)))) hP
        have hD : va_D A (zzM ad cy (us x_iM [(37, (1 : Int32))]) x_aM) := Eq.mp (congrArg (fun w => va_D A w) (sfM_iM37 ad cy x_iM x_aM ((1 : Int32)))) hD
        refine lv_aload_n hx hb dX8_become_506 rfl (lv_at hl 0 rfl) ?_
        refine lv_iconst (v := 0) hx hb dX8_become_507 (by decide) ?_
        refine va_put (D := (dC, dI)) (ci := 8) (v := .int ((0 : Int32))) (ty := .int) (C := RX8) (T := TX8) (N := 78) hx hb hts ki8 tyX8 tyX8_ok nmX8 hown hK hP hD hS 0 rfl rfl 66 (by decide) kf359 (fun _ h9 => h9) rfl (by decide +kernel) rfl rfl (Nat.le_of_ble_eq_true rfl) dX8_become_508 (fun H locs hP hD hS => ?_)
        have hP : va_P (dC, dI) vwCl (zzM ad cy (us x_iM [(37, (1 : Int32)), (66, (0 : Int32))]) x_aM) H := Eq.mp (congrArg (fun w => va_P (dC, dI) vwCl w H) (stM_iM66 ad cy x_iM x_aM [(37, (1 : Int32))] ((0 : Int32)))) hP
        have hD : va_D A (zzM ad cy (us x_iM [(37, (1 : Int32)), (66, (0 : Int32))]) x_aM) := Eq.mp (congrArg (fun w => va_D A w) (stM_iM66 ad cy x_iM x_aM [(37, (1 : Int32))] ((0 : Int32)))) hD
        refine lv_aload_n hx hb dX8_become_511 rfl (lv_at hl 0 rfl) ?_
        refine lv_iconst (v := 0) hx hb dX8_become_512 (by decide) ?_
        refine va_put (D := (dC, dI)) (ci := 8) (v := .int ((0 : Int32))) (ty := .int) (C := RX8) (T := TX8) (N := 78) hx hb hts ki8 tyX8 tyX8_ok nmX8 hown hK hP hD hS 0 rfl rfl 68 (by decide) kf362 (fun _ h9 => h9) rfl (by decide +kernel) rfl rfl (Nat.le_of_ble_eq_true rfl) dX8_become_513 (fun H locs hP hD hS => ?_)
        have hP : va_P (dC, dI) vwCl (zzM ad cy (us x_iM [(37, (1 : Int32)), (66, (0 : Int32)), (68, (0 : Int32))]) x_aM) H := Eq.mp (congrArg (fun w => va_P (dC, dI) vwCl w H) (stM_iM68 ad cy x_iM x_aM [(37, (1 : Int32)), (66, (0 : Int32))] ((0 : Int32)))) hP
        have hD : va_D A (zzM ad cy (us x_iM [(37, (1 : Int32)), (66, (0 : Int32)), (68, (0 : Int32))]) x_aM) := Eq.mp (congrArg (fun w => va_D A w) (stM_iM68 ad cy x_iM x_aM [(37, (1 : Int32)), (66, (0 : Int32))] ((0 : Int32)))) hD
        refine lv_aload_n hx hb dX8_become_516 rfl (lv_at hl 0 rfl) ?_
        obtain ⟨q517, e517, h⟩ := g_b h
        refine callVvs (cc := cX8_become) (w1 := zzM ad cy q517.1 q517.2) (As := []) (rest := []) ⟨hx, hb, hml, hown, hts⟩ (c_M_workOut l dC dI cy ad H.size N ((us x_iM [(37, (1 : Int32)), (66, (0 : Int32)), (68, (0 : Int32))])) x_aM q517 e517) (cwV 0 hts (goodV m_ml_X8_365 m_im_X8_workOut m_se_X8_workOut m_in_X8 m_cd_X8_workOut) rfl rfl rfl (by decide +kernel) ⟨Nat.le_of_ble_eq_true rfl, Nat.le_of_ble_eq_true rfl⟩) hN hK hP hD hS hA rfl 0 rfl rfl rfl hl.1 rfl (Nat.le_of_ble_eq_true rfl) dX8_become_517 ⟨Nat.zero_le _, Nat.zero_le _⟩ (fun H locs hP hD hS => ?_)
        have h' := Option.some.inj h
        rw [← hQQ]
        exact W.vret hx hb hr (fun t ht hW => ⟨⟨(), rfl, trivial, by rw [← hWQ, ← h', ht]; exact hP, va_K.moved hW.alike hK⟩, hS.F ht⟩) hS.2.2 dX8_become_520
      · have h := g_f h cz
        refine lv_aload_n hx hb dX8_become_417 rfl (lv_at hl 0 rfl) ?_
        refine va_get (D := (dC, dI)) (ci := 8) (v := .ref (ad 19)) (C := RX8) (T := TX8) (N := 78) hx hb hts ki8 hown hK hP 0 rfl rfl 30 (by decide) kf67 (fun _ h9 => h9) rfl dX8_become_418 ?_
        refine lv_iload_n hx hb dX8_become_421 rfl (lv_at hl 1 rfl) ?_
        refine lv_aload_n hx hb dX8_become_422 rfl (lv_at hl 0 rfl) ?_
        refine va_get (D := (dC, dI)) (ci := 8) (v := .ref (ad 19)) (C := RX8) (T := TX8) (N := 78) hx hb hts ki8 hown hK hP 0 rfl rfl 30 (by decide) kf67 (fun _ h9 => h9) rfl dX8_become_423 ?_
        refine lv_bipush (v := 9) hx hb dX8_become_426 (by decide) ?_
        refine lv_iload_n hx hb dX8_become_428 rfl (lv_at hl 1 rfl) ?_
        refine lv_iadd hx hb dX8_become_429 ?_
        obtain ⟨g_116, h⟩ := g_n h
        refine va_zald (f := (x_aM 30)) hx hb hK hP 19 4 rfl rfl g_116 dX8_become_430 ?_
        obtain ⟨g_117, h⟩ := g_n h
        refine va_zast (f := (x_aM 30)) hx hb hK hP hD hS 19 4 rfl rfl g_117 dX8_become_431 (fun H locs hP hD hS => ?_)
        have hP : va_P (dC, dI) vwCl (zzM ad cy x_iM (us x_aM [(30, (upd ((x_aM 30)) v1.toNatClampNeg (vp_nar .boolean ((((x_aM 30)) (((9 : Int32) + v1)).toNatClampNeg)))))])) H := Eq.mp (congrArg (fun w => va_P (dC, dI) vwCl w H) (sfM_aM30 ad cy x_iM x_aM ((upd ((x_aM 30)) v1.toNatClampNeg (vp_nar .boolean ((((x_aM 30)) (((9 : Int32) + v1)).toNatClampNeg))))))) hP
        have hD : va_D A (zzM ad cy x_iM (us x_aM [(30, (upd ((x_aM 30)) v1.toNatClampNeg (vp_nar .boolean ((((x_aM 30)) (((9 : Int32) + v1)).toNatClampNeg)))))])) := Eq.mp (congrArg (fun w => va_D A w) (sfM_aM30 ad cy x_iM x_aM ((upd ((x_aM 30)) v1.toNatClampNeg (vp_nar .boolean ((((x_aM 30)) (((9 : Int32) + v1)).toNatClampNeg))))))) hD
        refine lv_aload_n hx hb dX8_become_432 rfl (lv_at hl 0 rfl) ?_
        refine va_get (D := (dC, dI)) (ci := 8) (v := .ref (ad 21)) (C := RX8) (T := TX8) (N := 78) hx hb hts ki8 hown hK hP 0 rfl rfl 32 (by decide) kf73 (fun _ h9 => h9) rfl dX8_become_433 ?_
        refine lv_iload_n hx hb dX8_become_436 rfl (lv_at hl 1 rfl) ?_
        refine lv_aload_n hx hb dX8_become_437 rfl (lv_at hl 0 rfl) ?_
        refine va_get (D := (dC, dI)) (ci := 8) (v := .ref (ad 21)) (C := RX8) (T := TX8) (N := 78) hx hb hts ki8 hown hK hP 0 rfl rfl 32 (by decide) kf73 (fun _ h9 => h9) rfl dX8_become_438 ?_
        refine lv_bipush (v := 9) hx hb dX8_become_441 (by decide) ?_
        refine lv_iload_n hx hb dX8_become_443 rfl (lv_at hl 1 rfl) ?_
        refine lv_iadd hx hb dX8_become_444 ?_
        refine va_iald (f := (x_aM 32)) hx hb hK hP 21 0 rfl rfl g_116 dX8_become_445 ?_
        refine va_iast (f := (x_aM 32)) hx hb hK hP hD hS 21 0 rfl rfl g_117 dX8_become_446 (fun H locs hP hD hS => ?_)
        have hP : va_P (dC, dI) vwCl (zzM ad cy x_iM (us x_aM [(30, (upd ((x_aM 30)) v1.toNatClampNeg (vp_nar .boolean ((((x_aM 30)) (((9 : Int32) + v1)).toNatClampNeg))))), (32, (upd ((x_aM 32)) v1.toNatClampNeg ((((x_aM 32)) (((9 : Int32) + v1)).toNatClampNeg))))])) H := Eq.mp (congrArg (fun w => va_P (dC, dI) vwCl w H) (stM_aM32 ad cy x_iM x_aM [(30, (upd ((x_aM 30)) v1.toNatClampNeg (vp_nar .boolean ((((x_aM 30)) (((9 : Int32) + v1)).toNatClampNeg)))))] ((upd ((x_aM 32)) v1.toNatClampNeg ((((x_aM 32)) (((9 : Int32) + v1)).toNatClampNeg)))))) hP
        have hD : va_D A (zzM ad cy x_iM (us x_aM [(30, (upd ((x_aM 30)) v1.toNatClampNeg (vp_nar .boolean ((((x_aM 30)) (((9 : Int32) + v1)).toNatClampNeg))))), (32, (upd ((x_aM 32)) v1.toNatClampNeg ((((x_aM 32)) (((9 : Int32) + v1)).toNatClampNeg))))])) := Eq.mp (congrArg (fun w => va_D A w) (stM_aM32 ad cy x_iM x_aM [(30, (upd ((x_aM 30)) v1.toNatClampNeg (vp_nar .boolean ((((x_aM 30)) (((9 : Int32) + v1)).toNatClampNeg)))))] ((upd ((x_aM 32)) v1.toNatClampNeg ((((x_aM 32)) (((9 : Int32) + v1)).toNatClampNeg)))))) hD
        refine lv_aload_n hx hb dX8_become_447 rfl (lv_at hl 0 rfl) ?_
        refine va_get (D := (dC, dI)) (ci := 8) (v := .ref (ad 22)) (C := RX8) (T := TX8) (N := 78) hx hb hts ki8 hown hK hP 0 rfl rfl 33 (by decide) kf76 (fun _ h9 => h9) rfl dX8_become_448 ?_
        refine lv_iload_n hx hb dX8_become_451 rfl (lv_at hl 1 rfl) ?_
        refine lv_aload_n hx hb dX8_become_452 rfl (lv_at hl 0 rfl) ?_
        refine va_get (D := (dC, dI)) (ci := 8) (v := .ref (ad 22)) (C := RX8) (T := TX8) (N := 78) hx hb hts ki8 hown hK hP 0 rfl rfl 33 (by decide) kf76 (fun _ h9 => h9) rfl dX8_become_453 ?_
        refine lv_bipush (v := 9) hx hb dX8_become_456 (by decide) ?_
        refine lv_iload_n hx hb dX8_become_458 rfl (lv_at hl 1 rfl) ?_
        refine lv_iadd hx hb dX8_become_459 ?_
        refine va_iald (f := (x_aM 33)) hx hb hK hP 22 0 rfl rfl g_116 dX8_become_460 ?_
        refine va_iast (f := (x_aM 33)) hx hb hK hP hD hS 22 0 rfl rfl g_117 dX8_become_461 (fun H locs hP hD hS => ?_)
        have hP : va_P (dC, dI) vwCl (zzM ad cy x_iM (us x_aM [(30, (upd ((x_aM 30)) v1.toNatClampNeg (vp_nar .boolean ((((x_aM 30)) (((9 : Int32) + v1)).toNatClampNeg))))), (32, (upd ((x_aM 32)) v1.toNatClampNeg ((((x_aM 32)) (((9 : Int32) + v1)).toNatClampNeg)))), (33, (upd ((x_aM 33)) v1.toNatClampNeg ((((x_aM 33)) (((9 : Int32) + v1)).toNatClampNeg))))])) H := Eq.mp (congrArg (fun w => va_P (dC, dI) vwCl w H) (stM_aM33 ad cy x_iM x_aM [(30, (upd ((x_aM 30)) v1.toNatClampNeg (vp_nar .boolean ((((x_aM 30)) (((9 : Int32) + v1)).toNatClampNeg))))), (32, (upd ((x_aM 32)) v1.toNatClampNeg ((((x_aM 32)) (((9 : Int32) + v1)).toNatClampNeg))))] ((upd ((x_aM 33)) v1.toNatClampNeg ((((x_aM 33)) (((9 : Int32) + v1)).toNatClampNeg)))))) hP
        have hD : va_D A (zzM ad cy x_iM (us x_aM [(30, (upd ((x_aM 30)) v1.toNatClampNeg (vp_nar .boolean ((((x_aM 30)) (((9 : Int32) + v1)).toNatClampNeg))))), (32, (upd ((x_aM 32)) v1.toNatClampNeg ((((x_aM 32)) (((9 : Int32) + v1)).toNatClampNeg)))), (33, (upd ((x_aM 33)) v1.toNatClampNeg ((((x_aM 33)) (((9 : Int32) + v1)).toNatClampNeg))))])) := Eq.mp (congrArg (fun w => va_D A w) (stM_aM33 ad cy x_iM x_aM [(30, (upd ((x_aM 30)) v1.toNatClampNeg (vp_nar .boolean ((((x_aM 30)) (((9 : Int32) + v1)).toNatClampNeg))))), (32, (upd ((x_aM 32)) v1.toNatClampNeg ((((x_aM 32)) (((9 : Int32) + v1)).toNatClampNeg))))] ((upd ((x_aM 33)) v1.toNatClampNeg ((((x_aM 33)) (((9 : Int32) + v1)).toNatClampNeg)))))) hD
        refine lv_aload_n hx hb dX8_become_462 rfl (lv_at hl 0 rfl) ?_
        refine va_get (D := (dC, dI)) (ci := 8) (v := .ref (ad 23)) (C := RX8) (T := TX8) (N := 78) hx hb hts ki8 hown hK hP 0 rfl rfl 34 (by decide) kf79 (fun _ h9 => h9) rfl dX8_become_463 ?_
        refine lv_iload_n hx hb dX8_become_466 rfl (lv_at hl 1 rfl) ?_
        refine lv_aload_n hx hb dX8_become_467 rfl (lv_at hl 0 rfl) ?_
        refine va_get (D := (dC, dI)) (ci := 8) (v := .ref (ad 23)) (C := RX8) (T := TX8) (N := 78) hx hb hts ki8 hown hK hP 0 rfl rfl 34 (by decide) kf79 (fun _ h9 => h9) rfl dX8_become_468 ?_
        refine lv_bipush (v := 9) hx hb dX8_become_471 (by decide) ?_
        refine lv_iload_n hx hb dX8_become_473 rfl (lv_at hl 1 rfl) ?_
        refine lv_iadd hx hb dX8_become_474 ?_
        refine va_iald (f := (x_aM 34)) hx hb hK hP 23 0 rfl rfl g_116 dX8_become_475 ?_
        obtain ⟨q476, e476, h⟩ := g_b h
        refine callSi (cc := cX8_become) (ws' := zzM ad cy x_iM (us x_aM [(30, (upd ((x_aM 30)) v1.toNatClampNeg (vp_nar .boolean ((((x_aM 30)) (((9 : Int32) + v1)).toNatClampNeg))))), (32, (upd ((x_aM 32)) v1.toNatClampNeg ((((x_aM 32)) (((9 : Int32) + v1)).toNatClampNeg)))), (33, (upd ((x_aM 33)) v1.toNatClampNeg ((((x_aM 33)) (((9 : Int32) + v1)).toNatClampNeg))))])) (As := [.int ((((x_aM 34)) (((9 : Int32) + v1)).toNatClampNeg))]) (rest := [.int v1, .ref (ad 23)]) ⟨hx, hb, hml, hown, hts⟩ (c_M_moved l dC dI cy ad H.size ((((x_aM 34)) (((9 : Int32) + v1)).toNatClampNeg)) q476 e476) (va_cwS 1 hts (goodS m_ml_X8_335 m_st_X8_moved m_in_X8 m_cd_X8_moved) rfl rfl rfl (by decide +kernel) ⟨Nat.le_of_ble_eq_true rfl, Nat.le_of_ble_eq_true rfl⟩) hN hK hP hD hS hA [] [none, none, none, none, none, none, none, none, none, none, none, none, none, none, none, none, none, none, none, none, none, none, none, none, none, none, none, none, none, none, none, none, none, none, none, none, none, none, none, none, none, none, none, none] rfl rfl rfl rfl rfl rfl rfl hl.1 rfl (Nat.le_of_ble_eq_true rfl) dX8_become_476 ⟨Nat.zero_le _, Nat.zero_le _⟩ (fun H locs hP hD hS => ?_)
        refine va_iast (f := (x_aM 34)) hx hb hK hP hD hS 23 0 rfl rfl g_117 dX8_become_479 (fun H locs hP hD hS => ?_)
        have hP : va_P (dC, dI) vwCl (zzM ad cy x_iM (us x_aM [(30, (upd ((x_aM 30)) v1.toNatClampNeg (vp_nar .boolean ((((x_aM 30)) (((9 : Int32) + v1)).toNatClampNeg))))), (32, (upd ((x_aM 32)) v1.toNatClampNeg ((((x_aM 32)) (((9 : Int32) + v1)).toNatClampNeg)))), (33, (upd ((x_aM 33)) v1.toNatClampNeg ((((x_aM 33)) (((9 : Int32) + v1)).toNatClampNeg)))), (34, (upd ((x_aM 34)) v1.toNatClampNeg q476))])) H := Eq.mp (congrArg (fun w => va_P (dC, dI) vwCl w H) (stM_aM34 ad cy x_iM x_aM [(30, (upd ((x_aM 30)) v1.toNatClampNeg (vp_nar .boolean ((((x_aM 30)) (((9 : Int32) + v1)).toNatClampNeg))))), (32, (upd ((x_aM 32)) v1.toNatClampNeg ((((x_aM 32)) (((9 : Int32) + v1)).toNatClampNeg)))), (33, (upd ((x_aM 33)) v1.toNatClampNeg ((((x_aM 33)) (((9 : Int32) + v1)).toNatClampNeg))))] ((upd ((x_aM 34)) v1.toNatClampNeg q476)))) hP
        have hD : va_D A (zzM ad cy x_iM (us x_aM [(30, (upd ((x_aM 30)) v1.toNatClampNeg (vp_nar .boolean ((((x_aM 30)) (((9 : Int32) + v1)).toNatClampNeg))))), (32, (upd ((x_aM 32)) v1.toNatClampNeg ((((x_aM 32)) (((9 : Int32) + v1)).toNatClampNeg)))), (33, (upd ((x_aM 33)) v1.toNatClampNeg ((((x_aM 33)) (((9 : Int32) + v1)).toNatClampNeg)))), (34, (upd ((x_aM 34)) v1.toNatClampNeg q476))])) := Eq.mp (congrArg (fun w => va_D A w) (stM_aM34 ad cy x_iM x_aM [(30, (upd ((x_aM 30)) v1.toNatClampNeg (vp_nar .boolean ((((x_aM 30)) (((9 : Int32) + v1)).toNatClampNeg))))), (32, (upd ((x_aM 32)) v1.toNatClampNeg ((((x_aM 32)) (((9 : Int32) + v1)).toNatClampNeg)))), (33, (upd ((x_aM 33)) v1.toNatClampNeg ((((x_aM 33)) (((9 : Int32) + v1)).toNatClampNeg))))] ((upd ((x_aM 34)) v1.toNatClampNeg q476)))) hD
        refine lv_aload_n hx hb dX8_become_480 rfl (lv_at hl 0 rfl) ?_
        refine va_get (D := (dC, dI)) (ci := 8) (v := .ref (ad 24)) (C := RX8) (T := TX8) (N := 78) hx hb hts ki8 hown hK hP 0 rfl rfl 35 (by decide) kf82 (fun _ h9 => h9) rfl dX8_become_481 ?_
        refine lv_iload_n hx hb dX8_become_484 rfl (lv_at hl 1 rfl) ?_
        refine lv_aload_n hx hb dX8_become_485 rfl (lv_at hl 0 rfl) ?_
        refine va_get (D := (dC, dI)) (ci := 8) (v := .ref (ad 24)) (C := RX8) (T := TX8) (N := 78) hx hb hts ki8 hown hK hP 0 rfl rfl 35 (by decide) kf82 (fun _ h9 => h9) rfl dX8_become_486 ?_
        refine lv_bipush (v := 9) hx hb dX8_become_489 (by decide) ?_
        refine lv_iload_n hx hb dX8_become_491 rfl (lv_at hl 1 rfl) ?_
        refine lv_iadd hx hb dX8_become_492 ?_
        refine va_zald (f := (x_aM 35)) hx hb hK hP 24 4 rfl rfl g_116 dX8_become_493 ?_
        refine va_zast (f := (x_aM 35)) hx hb hK hP hD hS 24 4 rfl rfl g_117 dX8_become_494 (fun H locs hP hD hS => ?_)
        have hP : va_P (dC, dI) vwCl (zzM ad cy x_iM (us x_aM [(30, (upd ((x_aM 30)) v1.toNatClampNeg (vp_nar .boolean ((((x_aM 30)) (((9 : Int32) + v1)).toNatClampNeg))))), (32, (upd ((x_aM 32)) v1.toNatClampNeg ((((x_aM 32)) (((9 : Int32) + v1)).toNatClampNeg)))), (33, (upd ((x_aM 33)) v1.toNatClampNeg ((((x_aM 33)) (((9 : Int32) + v1)).toNatClampNeg)))), (34, (upd ((x_aM 34)) v1.toNatClampNeg q476)), (35, (upd ((x_aM 35)) v1.toNatClampNeg (vp_nar .boolean ((((x_aM 35)) (((9 : Int32) + v1)).toNatClampNeg)))))])) H := Eq.mp (congrArg (fun w => va_P (dC, dI) vwCl w H) (stM_aM35 ad cy x_iM x_aM [(30, (upd ((x_aM 30)) v1.toNatClampNeg (vp_nar .boolean ((((x_aM 30)) (((9 : Int32) + v1)).toNatClampNeg))))), (32, (upd ((x_aM 32)) v1.toNatClampNeg ((((x_aM 32)) (((9 : Int32) + v1)).toNatClampNeg)))), (33, (upd ((x_aM 33)) v1.toNatClampNeg ((((x_aM 33)) (((9 : Int32) + v1)).toNatClampNeg)))), (34, (upd ((x_aM 34)) v1.toNatClampNeg q476))] ((upd ((x_aM 35)) v1.toNatClampNeg (vp_nar .boolean ((((x_aM 35)) (((9 : Int32) + v1)).toNatClampNeg))))))) hP
        have hD : va_D A (zzM ad cy x_iM (us x_aM [(30, (upd ((x_aM 30)) v1.toNatClampNeg (vp_nar .boolean ((((x_aM 30)) (((9 : Int32) + v1)).toNatClampNeg))))), (32, (upd ((x_aM 32)) v1.toNatClampNeg ((((x_aM 32)) (((9 : Int32) + v1)).toNatClampNeg)))), (33, (upd ((x_aM 33)) v1.toNatClampNeg ((((x_aM 33)) (((9 : Int32) + v1)).toNatClampNeg)))), (34, (upd ((x_aM 34)) v1.toNatClampNeg q476)), (35, (upd ((x_aM 35)) v1.toNatClampNeg (vp_nar .boolean ((((x_aM 35)) (((9 : Int32) + v1)).toNatClampNeg)))))])) := Eq.mp (congrArg (fun w => va_D A w) (stM_aM35 ad cy x_iM x_aM [(30, (upd ((x_aM 30)) v1.toNatClampNeg (vp_nar .boolean ((((x_aM 30)) (((9 : Int32) + v1)).toNatClampNeg))))), (32, (upd ((x_aM 32)) v1.toNatClampNeg ((((x_aM 32)) (((9 : Int32) + v1)).toNatClampNeg)))), (33, (upd ((x_aM 33)) v1.toNatClampNeg ((((x_aM 33)) (((9 : Int32) + v1)).toNatClampNeg)))), (34, (upd ((x_aM 34)) v1.toNatClampNeg q476))] ((upd ((x_aM 35)) v1.toNatClampNeg (vp_nar .boolean ((((x_aM 35)) (((9 : Int32) + v1)).toNatClampNeg))))))) hD
        refine lv_iinc (v := (v1 + (1 : Int32))) (lv' := [(1, .int ((v1 + (1 : Int32)))), (0, .ref (ad 0))]) hx hb dX8_become_495 hl (k := 1) rfl rfl (by decide) rfl (fun ls hl => ?_)
        refine lv_goto (tgt := 411) hx hb dX8_become_498 (by decide) ?_
        exact ih x_iM ((v1 + (1 : Int32))) ((us x_aM [(30, (upd ((x_aM 30)) v1.toNatClampNeg (vp_nar .boolean ((((x_aM 30)) (((9 : Int32) + v1)).toNatClampNeg))))), (32, (upd ((x_aM 32)) v1.toNatClampNeg ((((x_aM 32)) (((9 : Int32) + v1)).toNatClampNeg)))), (33, (upd ((x_aM 33)) v1.toNatClampNeg ((((x_aM 33)) (((9 : Int32) + v1)).toNatClampNeg)))), (34, (upd ((x_aM 34)) v1.toNatClampNeg q476)), (35, (upd ((x_aM 35)) v1.toNatClampNeg (vp_nar .boolean ((((x_aM 35)) (((9 : Int32) + v1)).toNatClampNeg)))))])) H locs ls h hP hD hS (lv_sub hl [1, 0] rfl)
  have B370 : ∀ (n : Nat) (x_iM : Nat → Int32) (v1 : Int32) (x_aM : Nat → Nat → Int32) (H : Heap) (locs : List Loc) (ls : Array Slot), f_M_become_370 N iM aM x_iM n v1 x_aM = some q → va_P (dC, dI) vwCl (zzM ad cy x_iM x_aM) H → va_D A (zzM ad cy x_iM x_aM) → va_S A s.heap H locs → lv_has ls 3 [(0, .ref (ad 0)), (1, .int v1)] → W p l e ({ frames := 5, cells := 0, slots := 0, locals := 120 } : Room) s m args below meth c H locs 0 0 QQ (F0 m 370 ls []) := by
    intro n
    induction n with
    | zero =>
      intro x_iM v1 x_aM H locs ls h hP hD hS hl
      rw [f_M_become_370] at h
      cases h
    | succ n ih =>
      intro x_iM v1 x_aM H locs ls h hP hD hS hl
      rw [f_M_become_370] at h
      refine lv_iload_n hx hb dX8_become_370 rfl (lv_at hl 1 rfl) ?_
      refine lv_iconst (v := 3) hx hb dX8_become_371 (by decide) ?_
      refine lv_icmp_ge (tgt := 409) hx hb dX8_become_372 (by decide) (fun cz => ?_) (fun cz => ?_)
      · have h := g_t h cz
        refine lv_iconst (v := 0) hx hb dX8_become_409 (by decide) ?_
        refine lv_istore_n (lv' := [(1, .int ((0 : Int32))), (0, .ref (ad 0))]) hx hb dX8_become_410 rfl hl (by decide) rfl (fun ls hl => ?_)
        exact B411 N x_iM ((0 : Int32)) x_aM H locs ls h hP hD hS (lv_sub hl [1, 0] rfl)
      · have h := g_f h cz
        refine lv_aload_n hx hb dX8_become_375 rfl (lv_at hl 0 rfl) ?_
        refine va_get (D := (dC, dI)) (ci := 8) (v := .ref (ad 17)) (C := RX8) (T := TX8) (N := 78) hx hb hts ki8 hown hK hP 0 rfl rfl 27 (by decide) kf60 (fun _ h9 => h9) rfl dX8_become_376 ?_
        refine lv_iload_n hx hb dX8_become_379 rfl (lv_at hl 1 rfl) ?_
        refine lv_aload_n hx hb dX8_become_380 rfl (lv_at hl 0 rfl) ?_
        refine va_get (D := (dC, dI)) (ci := 8) (v := .ref (ad 17)) (C := RX8) (T := TX8) (N := 78) hx hb hts ki8 hown hK hP 0 rfl rfl 27 (by decide) kf60 (fun _ h9 => h9) rfl dX8_become_381 ?_
        refine lv_iconst (v := 3) hx hb dX8_become_384 (by decide) ?_
        refine lv_iload_n hx hb dX8_become_385 rfl (lv_at hl 1 rfl) ?_
        refine lv_iadd hx hb dX8_become_386 ?_
        obtain ⟨g_57, h⟩ := g_n h
        refine va_iald (f := (x_aM 27)) hx hb hK hP 17 0 rfl rfl g_57 dX8_become_387 ?_
        obtain ⟨g_118, h⟩ := g_n h
        refine va_iast (f := (x_aM 27)) hx hb hK hP hD hS 17 0 rfl rfl g_118 dX8_become_388 (fun H locs hP hD hS => ?_)
        have hP : va_P (dC, dI) vwCl (zzM ad cy x_iM (us x_aM [(27, (upd ((x_aM 27)) v1.toNatClampNeg ((((x_aM 27)) (((3 : Int32) + v1)).toNatClampNeg))))])) H := Eq.mp (congrArg (fun w => va_P (dC, dI) vwCl w H) (sfM_aM27 ad cy x_iM x_aM ((upd ((x_aM 27)) v1.toNatClampNeg ((((x_aM 27)) (((3 : Int32) + v1)).toNatClampNeg)))))) hP
        have hD : va_D A (zzM ad cy x_iM (us x_aM [(27, (upd ((x_aM 27)) v1.toNatClampNeg ((((x_aM 27)) (((3 : Int32) + v1)).toNatClampNeg))))])) := Eq.mp (congrArg (fun w => va_D A w) (sfM_aM27 ad cy x_iM x_aM ((upd ((x_aM 27)) v1.toNatClampNeg ((((x_aM 27)) (((3 : Int32) + v1)).toNatClampNeg)))))) hD
        refine lv_aload_n hx hb dX8_become_389 rfl (lv_at hl 0 rfl) ?_
        refine va_get (D := (dC, dI)) (ci := 8) (v := .ref (ad 18)) (C := RX8) (T := TX8) (N := 78) hx hb hts ki8 hown hK hP 0 rfl rfl 29 (by decide) kf63 (fun _ h9 => h9) rfl dX8_become_390 ?_
        refine lv_iload_n hx hb dX8_become_393 rfl (lv_at hl 1 rfl) ?_
        refine lv_aload_n hx hb dX8_become_394 rfl (lv_at hl 0 rfl) ?_
        refine va_get (D := (dC, dI)) (ci := 8) (v := .ref (ad 18)) (C := RX8) (T := TX8) (N := 78) hx hb hts ki8 hown hK hP 0 rfl rfl 29 (by decide) kf63 (fun _ h9 => h9) rfl dX8_become_395 ?_
        refine lv_iconst (v := 3) hx hb dX8_become_398 (by decide) ?_
        refine lv_iload_n hx hb dX8_become_399 rfl (lv_at hl 1 rfl) ?_
        refine lv_iadd hx hb dX8_become_400 ?_
        refine va_zald (f := (x_aM 29)) hx hb hK hP 18 4 rfl rfl g_57 dX8_become_401 ?_
        refine va_zast (f := (x_aM 29)) hx hb hK hP hD hS 18 4 rfl rfl g_118 dX8_become_402 (fun H locs hP hD hS => ?_)
        have hP : va_P (dC, dI) vwCl (zzM ad cy x_iM (us x_aM [(27, (upd ((x_aM 27)) v1.toNatClampNeg ((((x_aM 27)) (((3 : Int32) + v1)).toNatClampNeg)))), (29, (upd ((x_aM 29)) v1.toNatClampNeg (vp_nar .boolean ((((x_aM 29)) (((3 : Int32) + v1)).toNatClampNeg)))))])) H := Eq.mp (congrArg (fun w => va_P (dC, dI) vwCl w H) (stM_aM29 ad cy x_iM x_aM [(27, (upd ((x_aM 27)) v1.toNatClampNeg ((((x_aM 27)) (((3 : Int32) + v1)).toNatClampNeg))))] ((upd ((x_aM 29)) v1.toNatClampNeg (vp_nar .boolean ((((x_aM 29)) (((3 : Int32) + v1)).toNatClampNeg))))))) hP
        have hD : va_D A (zzM ad cy x_iM (us x_aM [(27, (upd ((x_aM 27)) v1.toNatClampNeg ((((x_aM 27)) (((3 : Int32) + v1)).toNatClampNeg)))), (29, (upd ((x_aM 29)) v1.toNatClampNeg (vp_nar .boolean ((((x_aM 29)) (((3 : Int32) + v1)).toNatClampNeg)))))])) := Eq.mp (congrArg (fun w => va_D A w) (stM_aM29 ad cy x_iM x_aM [(27, (upd ((x_aM 27)) v1.toNatClampNeg ((((x_aM 27)) (((3 : Int32) + v1)).toNatClampNeg))))] ((upd ((x_aM 29)) v1.toNatClampNeg (vp_nar .boolean ((((x_aM 29)) (((3 : Int32) + v1)).toNatClampNeg))))))) hD
        refine lv_iinc (v := (v1 + (1 : Int32))) (lv' := [(1, .int ((v1 + (1 : Int32)))), (0, .ref (ad 0))]) hx hb dX8_become_403 hl (k := 1) rfl rfl (by decide) rfl (fun ls hl => ?_)
        refine lv_goto (tgt := 370) hx hb dX8_become_406 (by decide) ?_
        exact ih x_iM ((v1 + (1 : Int32))) ((us x_aM [(27, (upd ((x_aM 27)) v1.toNatClampNeg ((((x_aM 27)) (((3 : Int32) + v1)).toNatClampNeg)))), (29, (upd ((x_aM 29)) v1.toNatClampNeg (vp_nar .boolean ((((x_aM 29)) (((3 : Int32) + v1)).toNatClampNeg)))))])) H locs ls h hP hD hS (lv_sub hl [1, 0] rfl)
  have B343 : ∀ (n : Nat) (x_iM : Nat → Int32) (v1 : Int32) (x_aM : Nat → Nat → Int32) (H : Heap) (locs : List Loc) (ls : Array Slot), f_M_become_343 N iM aM x_iM n v1 x_aM = some q → va_P (dC, dI) vwCl (zzM ad cy x_iM x_aM) H → va_D A (zzM ad cy x_iM x_aM) → va_S A s.heap H locs → lv_has ls 3 [(0, .ref (ad 0)), (1, .int v1)] → W p l e ({ frames := 5, cells := 0, slots := 0, locals := 120 } : Room) s m args below meth c H locs 0 0 QQ (F0 m 343 ls []) := by
    intro n
    induction n with
    | zero =>
      intro x_iM v1 x_aM H locs ls h hP hD hS hl
      rw [f_M_become_343] at h
      cases h
    | succ n ih =>
      intro x_iM v1 x_aM H locs ls h hP hD hS hl
      rw [f_M_become_343] at h
      refine lv_iload_n hx hb dX8_become_343 rfl (lv_at hl 1 rfl) ?_
      refine lv_iconst (v := 5) hx hb dX8_become_344 (by decide) ?_
      refine lv_icmp_ge (tgt := 368) hx hb dX8_become_345 (by decide) (fun cz => ?_) (fun cz => ?_)
      · have h := g_t h cz
        refine lv_iconst (v := 0) hx hb dX8_become_368 (by decide) ?_
        refine lv_istore_n (lv' := [(1, .int ((0 : Int32))), (0, .ref (ad 0))]) hx hb dX8_become_369 rfl hl (by decide) rfl (fun ls hl => ?_)
        exact B370 N x_iM ((0 : Int32)) x_aM H locs ls h hP hD hS (lv_sub hl [1, 0] rfl)
      · have h := g_f h cz
        refine lv_aload_n hx hb dX8_become_348 rfl (lv_at hl 0 rfl) ?_
        refine va_get (D := (dC, dI)) (ci := 8) (v := .ref (ad 15)) (C := RX8) (T := TX8) (N := 78) hx hb hts ki8 hown hK hP 0 rfl rfl 24 (by decide) kf54 (fun _ h9 => h9) rfl dX8_become_349 ?_
        refine lv_iload_n hx hb dX8_become_352 rfl (lv_at hl 1 rfl) ?_
        refine lv_aload_n hx hb dX8_become_353 rfl (lv_at hl 0 rfl) ?_
        refine va_get (D := (dC, dI)) (ci := 8) (v := .ref (ad 15)) (C := RX8) (T := TX8) (N := 78) hx hb hts ki8 hown hK hP 0 rfl rfl 24 (by decide) kf54 (fun _ h9 => h9) rfl dX8_become_354 ?_
        refine lv_iconst (v := 5) hx hb dX8_become_357 (by decide) ?_
        refine lv_iload_n hx hb dX8_become_358 rfl (lv_at hl 1 rfl) ?_
        refine lv_iadd hx hb dX8_become_359 ?_
        obtain ⟨g_55, h⟩ := g_n h
        refine va_iald (f := (x_aM 24)) hx hb hK hP 15 0 rfl rfl g_55 dX8_become_360 ?_
        obtain ⟨g_119, h⟩ := g_n h
        refine va_iast (f := (x_aM 24)) hx hb hK hP hD hS 15 0 rfl rfl g_119 dX8_become_361 (fun H locs hP hD hS => ?_)
        have hP : va_P (dC, dI) vwCl (zzM ad cy x_iM (us x_aM [(24, (upd ((x_aM 24)) v1.toNatClampNeg ((((x_aM 24)) (((5 : Int32) + v1)).toNatClampNeg))))])) H := Eq.mp (congrArg (fun w => va_P (dC, dI) vwCl w H) (sfM_aM24 ad cy x_iM x_aM ((upd ((x_aM 24)) v1.toNatClampNeg ((((x_aM 24)) (((5 : Int32) + v1)).toNatClampNeg)))))) hP
        have hD : va_D A (zzM ad cy x_iM (us x_aM [(24, (upd ((x_aM 24)) v1.toNatClampNeg ((((x_aM 24)) (((5 : Int32) + v1)).toNatClampNeg))))])) := Eq.mp (congrArg (fun w => va_D A w) (sfM_aM24 ad cy x_iM x_aM ((upd ((x_aM 24)) v1.toNatClampNeg ((((x_aM 24)) (((5 : Int32) + v1)).toNatClampNeg)))))) hD
        refine lv_iinc (v := (v1 + (1 : Int32))) (lv' := [(1, .int ((v1 + (1 : Int32)))), (0, .ref (ad 0))]) hx hb dX8_become_362 hl (k := 1) rfl rfl (by decide) rfl (fun ls hl => ?_)
        refine lv_goto (tgt := 343) hx hb dX8_become_365 (by decide) ?_
        exact ih x_iM ((v1 + (1 : Int32))) ((us x_aM [(24, (upd ((x_aM 24)) v1.toNatClampNeg ((((x_aM 24)) (((5 : Int32) + v1)).toNatClampNeg))))])) H locs ls h hP hD hS (lv_sub hl [1, 0] rfl)
  have B314 : ∀ (n : Nat) (x_iM : Nat → Int32) (v1 : Int32) (x_aM : Nat → Nat → Int32) (H : Heap) (locs : List Loc) (ls : Array Slot), f_M_become_314 N iM aM x_iM n v1 x_aM = some q → va_P (dC, dI) vwCl (zzM ad cy x_iM x_aM) H → va_D A (zzM ad cy x_iM x_aM) → va_S A s.heap H locs → lv_has ls 3 [(0, .ref (ad 0)), (1, .int v1)] → W p l e ({ frames := 5, cells := 0, slots := 0, locals := 120 } : Room) s m args below meth c H locs 0 0 QQ (F0 m 314 ls []) := by
    intro n
    induction n with
    | zero =>
      intro x_iM v1 x_aM H locs ls h hP hD hS hl
      rw [f_M_become_314] at h
      cases h
    | succ n ih =>
      intro x_iM v1 x_aM H locs ls h hP hD hS hl
      rw [f_M_become_314] at h
      refine lv_iload_n hx hb dX8_become_314 rfl (lv_at hl 1 rfl) ?_
      refine lv_bipush (v := 24) hx hb dX8_become_315 (by decide) ?_
      refine lv_icmp_ge (tgt := 341) hx hb dX8_become_317 (by decide) (fun cz => ?_) (fun cz => ?_)
      · have h := g_t h cz
        refine lv_iconst (v := 0) hx hb dX8_become_341 (by decide) ?_
        refine lv_istore_n (lv' := [(1, .int ((0 : Int32))), (0, .ref (ad 0))]) hx hb dX8_become_342 rfl hl (by decide) rfl (fun ls hl => ?_)
        exact B343 N x_iM ((0 : Int32)) x_aM H locs ls h hP hD hS (lv_sub hl [1, 0] rfl)
      · have h := g_f h cz
        refine lv_aload_n hx hb dX8_become_320 rfl (lv_at hl 0 rfl) ?_
        refine va_get (D := (dC, dI)) (ci := 8) (v := .ref (ad 16)) (C := RX8) (T := TX8) (N := 78) hx hb hts ki8 hown hK hP 0 rfl rfl 26 (by decide) kf57 (fun _ h9 => h9) rfl dX8_become_321 ?_
        refine lv_iload_n hx hb dX8_become_324 rfl (lv_at hl 1 rfl) ?_
        refine lv_aload_n hx hb dX8_become_325 rfl (lv_at hl 0 rfl) ?_
        refine va_get (D := (dC, dI)) (ci := 8) (v := .ref (ad 16)) (C := RX8) (T := TX8) (N := 78) hx hb hts ki8 hown hK hP 0 rfl rfl 26 (by decide) kf57 (fun _ h9 => h9) rfl dX8_become_326 ?_
        refine lv_bipush (v := 24) hx hb dX8_become_329 (by decide) ?_
        refine lv_iload_n hx hb dX8_become_331 rfl (lv_at hl 1 rfl) ?_
        refine lv_iadd hx hb dX8_become_332 ?_
        obtain ⟨g_120, h⟩ := g_n h
        refine va_bald (f := (x_aM 26)) hx hb hK hP 16 1 rfl rfl g_120 dX8_become_333 ?_
        obtain ⟨g_121, h⟩ := g_n h
        refine va_bast (f := (x_aM 26)) hx hb hK hP hD hS 16 1 rfl rfl g_121 dX8_become_334 (fun H locs hP hD hS => ?_)
        have hP : va_P (dC, dI) vwCl (zzM ad cy x_iM (us x_aM [(26, (upd ((x_aM 26)) v1.toNatClampNeg (vp_nar .byte ((((x_aM 26)) (((24 : Int32) + v1)).toNatClampNeg)))))])) H := Eq.mp (congrArg (fun w => va_P (dC, dI) vwCl w H) (sfM_aM26 ad cy x_iM x_aM ((upd ((x_aM 26)) v1.toNatClampNeg (vp_nar .byte ((((x_aM 26)) (((24 : Int32) + v1)).toNatClampNeg))))))) hP
        have hD : va_D A (zzM ad cy x_iM (us x_aM [(26, (upd ((x_aM 26)) v1.toNatClampNeg (vp_nar .byte ((((x_aM 26)) (((24 : Int32) + v1)).toNatClampNeg)))))])) := Eq.mp (congrArg (fun w => va_D A w) (sfM_aM26 ad cy x_iM x_aM ((upd ((x_aM 26)) v1.toNatClampNeg (vp_nar .byte ((((x_aM 26)) (((24 : Int32) + v1)).toNatClampNeg))))))) hD
        refine lv_iinc (v := (v1 + (1 : Int32))) (lv' := [(1, .int ((v1 + (1 : Int32)))), (0, .ref (ad 0))]) hx hb dX8_become_335 hl (k := 1) rfl rfl (by decide) rfl (fun ls hl => ?_)
        refine lv_goto (tgt := 314) hx hb dX8_become_338 (by decide) ?_
        exact ih x_iM ((v1 + (1 : Int32))) ((us x_aM [(26, (upd ((x_aM 26)) v1.toNatClampNeg (vp_nar .byte ((((x_aM 26)) (((24 : Int32) + v1)).toNatClampNeg)))))])) H locs ls h hP hD hS (lv_sub hl [1, 0] rfl)
  have B285 : ∀ (n : Nat) (x_iM : Nat → Int32) (v1 : Int32) (x_aM : Nat → Nat → Int32) (H : Heap) (locs : List Loc) (ls : Array Slot), f_M_become_285 N iM aM x_iM n v1 x_aM = some q → va_P (dC, dI) vwCl (zzM ad cy x_iM x_aM) H → va_D A (zzM ad cy x_iM x_aM) → va_S A s.heap H locs → lv_has ls 3 [(0, .ref (ad 0)), (1, .int v1)] → W p l e ({ frames := 5, cells := 0, slots := 0, locals := 120 } : Room) s m args below meth c H locs 0 0 QQ (F0 m 285 ls []) := by
    intro n
    induction n with
    | zero =>
      intro x_iM v1 x_aM H locs ls h hP hD hS hl
      rw [f_M_become_285] at h
      cases h
    | succ n ih =>
      intro x_iM v1 x_aM H locs ls h hP hD hS hl
      rw [f_M_become_285] at h
      refine lv_iload_n hx hb dX8_become_285 rfl (lv_at hl 1 rfl) ?_
      refine lv_bipush (v := 40) hx hb dX8_become_286 (by decide) ?_
      refine lv_icmp_ge (tgt := 312) hx hb dX8_become_288 (by decide) (fun cz => ?_) (fun cz => ?_)
      · have h := g_t h cz
        refine lv_iconst (v := 0) hx hb dX8_become_312 (by decide) ?_
        refine lv_istore_n (lv' := [(1, .int ((0 : Int32))), (0, .ref (ad 0))]) hx hb dX8_become_313 rfl hl (by decide) rfl (fun ls hl => ?_)
        exact B314 N x_iM ((0 : Int32)) x_aM H locs ls h hP hD hS (lv_sub hl [1, 0] rfl)
      · have h := g_f h cz
        refine lv_aload_n hx hb dX8_become_291 rfl (lv_at hl 0 rfl) ?_
        refine va_get (D := (dC, dI)) (ci := 8) (v := .ref (ad 14)) (C := RX8) (T := TX8) (N := 78) hx hb hts ki8 hown hK hP 0 rfl rfl 23 (by decide) kf51 (fun _ h9 => h9) rfl dX8_become_292 ?_
        refine lv_iload_n hx hb dX8_become_295 rfl (lv_at hl 1 rfl) ?_
        refine lv_aload_n hx hb dX8_become_296 rfl (lv_at hl 0 rfl) ?_
        refine va_get (D := (dC, dI)) (ci := 8) (v := .ref (ad 14)) (C := RX8) (T := TX8) (N := 78) hx hb hts ki8 hown hK hP 0 rfl rfl 23 (by decide) kf51 (fun _ h9 => h9) rfl dX8_become_297 ?_
        refine lv_bipush (v := 40) hx hb dX8_become_300 (by decide) ?_
        refine lv_iload_n hx hb dX8_become_302 rfl (lv_at hl 1 rfl) ?_
        refine lv_iadd hx hb dX8_become_303 ?_
        obtain ⟨g_122, h⟩ := g_n h
        refine va_bald (f := (x_aM 23)) hx hb hK hP 14 1 rfl rfl g_122 dX8_become_304 ?_
        obtain ⟨g_123, h⟩ := g_n h
        refine va_bast (f := (x_aM 23)) hx hb hK hP hD hS 14 1 rfl rfl g_123 dX8_become_305 (fun H locs hP hD hS => ?_)
        have hP : va_P (dC, dI) vwCl (zzM ad cy x_iM (us x_aM [(23, (upd ((x_aM 23)) v1.toNatClampNeg (vp_nar .byte ((((x_aM 23)) (((40 : Int32) + v1)).toNatClampNeg)))))])) H := Eq.mp (congrArg (fun w => va_P (dC, dI) vwCl w H) (sfM_aM23 ad cy x_iM x_aM ((upd ((x_aM 23)) v1.toNatClampNeg (vp_nar .byte ((((x_aM 23)) (((40 : Int32) + v1)).toNatClampNeg))))))) hP
        have hD : va_D A (zzM ad cy x_iM (us x_aM [(23, (upd ((x_aM 23)) v1.toNatClampNeg (vp_nar .byte ((((x_aM 23)) (((40 : Int32) + v1)).toNatClampNeg)))))])) := Eq.mp (congrArg (fun w => va_D A w) (sfM_aM23 ad cy x_iM x_aM ((upd ((x_aM 23)) v1.toNatClampNeg (vp_nar .byte ((((x_aM 23)) (((40 : Int32) + v1)).toNatClampNeg))))))) hD
        refine lv_iinc (v := (v1 + (1 : Int32))) (lv' := [(1, .int ((v1 + (1 : Int32)))), (0, .ref (ad 0))]) hx hb dX8_become_306 hl (k := 1) rfl rfl (by decide) rfl (fun ls hl => ?_)
        refine lv_goto (tgt := 285) hx hb dX8_become_309 (by decide) ?_
        exact ih x_iM ((v1 + (1 : Int32))) ((us x_aM [(23, (upd ((x_aM 23)) v1.toNatClampNeg (vp_nar .byte ((((x_aM 23)) (((40 : Int32) + v1)).toNatClampNeg)))))])) H locs ls h hP hD hS (lv_sub hl [1, 0] rfl)
  have B238 : ∀ (n : Nat) (x_iM : Nat → Int32) (v1 : Int32) (x_aM : Nat → Nat → Int32) (H : Heap) (locs : List Loc) (ls : Array Slot), f_M_become_238 N iM aM x_iM n v1 x_aM = some q → va_P (dC, dI) vwCl (zzM ad cy x_iM x_aM) H → va_D A (zzM ad cy x_iM x_aM) → va_S A s.heap H locs → lv_has ls 3 [(0, .ref (ad 0)), (1, .int v1)] → W p l e ({ frames := 5, cells := 0, slots := 0, locals := 120 } : Room) s m args below meth c H locs 0 0 QQ (F0 m 238 ls []) := by
    intro n
    induction n with
    | zero =>
      intro x_iM v1 x_aM H locs ls h hP hD hS hl
      rw [f_M_become_238] at h
      cases h
    | succ n ih =>
      intro x_iM v1 x_aM H locs ls h hP hD hS hl
      rw [f_M_become_238] at h
      refine lv_iload_n hx hb dX8_become_238 rfl (lv_at hl 1 rfl) ?_
      refine lv_bipush (v := 12) hx hb dX8_become_239 (by decide) ?_
      refine lv_icmp_ge (tgt := 283) hx hb dX8_become_241 (by decide) (fun cz => ?_) (fun cz => ?_)
      · have h := g_t h cz
        refine lv_iconst (v := 0) hx hb dX8_become_283 (by decide) ?_
        refine lv_istore_n (lv' := [(1, .int ((0 : Int32))), (0, .ref (ad 0))]) hx hb dX8_become_284 rfl hl (by decide) rfl (fun ls hl => ?_)
        exact B285 N x_iM ((0 : Int32)) x_aM H locs ls h hP hD hS (lv_sub hl [1, 0] rfl)
      · have h := g_f h cz
        refine lv_aload_n hx hb dX8_become_244 rfl (lv_at hl 0 rfl) ?_
        refine va_get (D := (dC, dI)) (ci := 8) (v := .ref (ad 12)) (C := RX8) (T := TX8) (N := 78) hx hb hts ki8 hown hK hP 0 rfl rfl 19 (by decide) kf45 (fun _ h9 => h9) rfl dX8_become_245 ?_
        refine lv_iload_n hx hb dX8_become_248 rfl (lv_at hl 1 rfl) ?_
        refine lv_aload_n hx hb dX8_become_249 rfl (lv_at hl 0 rfl) ?_
        refine va_get (D := (dC, dI)) (ci := 8) (v := .ref (ad 12)) (C := RX8) (T := TX8) (N := 78) hx hb hts ki8 hown hK hP 0 rfl rfl 19 (by decide) kf45 (fun _ h9 => h9) rfl dX8_become_250 ?_
        refine lv_bipush (v := 12) hx hb dX8_become_253 (by decide) ?_
        refine lv_iload_n hx hb dX8_become_255 rfl (lv_at hl 1 rfl) ?_
        refine lv_iadd hx hb dX8_become_256 ?_
        obtain ⟨g_124, h⟩ := g_n h
        refine va_iald (f := (x_aM 19)) hx hb hK hP 12 0 rfl rfl g_124 dX8_become_257 ?_
        obtain ⟨g_125, h⟩ := g_n h
        refine va_iast (f := (x_aM 19)) hx hb hK hP hD hS 12 0 rfl rfl g_125 dX8_become_258 (fun H locs hP hD hS => ?_)
        have hP : va_P (dC, dI) vwCl (zzM ad cy x_iM (us x_aM [(19, (upd ((x_aM 19)) v1.toNatClampNeg ((((x_aM 19)) (((12 : Int32) + v1)).toNatClampNeg))))])) H := Eq.mp (congrArg (fun w => va_P (dC, dI) vwCl w H) (sfM_aM19 ad cy x_iM x_aM ((upd ((x_aM 19)) v1.toNatClampNeg ((((x_aM 19)) (((12 : Int32) + v1)).toNatClampNeg)))))) hP
        have hD : va_D A (zzM ad cy x_iM (us x_aM [(19, (upd ((x_aM 19)) v1.toNatClampNeg ((((x_aM 19)) (((12 : Int32) + v1)).toNatClampNeg))))])) := Eq.mp (congrArg (fun w => va_D A w) (sfM_aM19 ad cy x_iM x_aM ((upd ((x_aM 19)) v1.toNatClampNeg ((((x_aM 19)) (((12 : Int32) + v1)).toNatClampNeg)))))) hD
        refine lv_aload_n hx hb dX8_become_259 rfl (lv_at hl 0 rfl) ?_
        refine va_get (D := (dC, dI)) (ci := 8) (v := .ref (ad 13)) (C := RX8) (T := TX8) (N := 78) hx hb hts ki8 hown hK hP 0 rfl rfl 21 (by decide) kf48 (fun _ h9 => h9) rfl dX8_become_260 ?_
        refine lv_iload_n hx hb dX8_become_263 rfl (lv_at hl 1 rfl) ?_
        refine lv_aload_n hx hb dX8_become_264 rfl (lv_at hl 0 rfl) ?_
        refine va_get (D := (dC, dI)) (ci := 8) (v := .ref (ad 13)) (C := RX8) (T := TX8) (N := 78) hx hb hts ki8 hown hK hP 0 rfl rfl 21 (by decide) kf48 (fun _ h9 => h9) rfl dX8_become_265 ?_
        refine lv_bipush (v := 12) hx hb dX8_become_268 (by decide) ?_
        refine lv_iload_n hx hb dX8_become_270 rfl (lv_at hl 1 rfl) ?_
        refine lv_iadd hx hb dX8_become_271 ?_
        refine va_iald (f := (x_aM 21)) hx hb hK hP 13 0 rfl rfl g_124 dX8_become_272 ?_
        obtain ⟨q273, e273, h⟩ := g_b h
        refine callSi (cc := cX8_become) (ws' := zzM ad cy x_iM (us x_aM [(19, (upd ((x_aM 19)) v1.toNatClampNeg ((((x_aM 19)) (((12 : Int32) + v1)).toNatClampNeg))))])) (As := [.int ((((x_aM 21)) (((12 : Int32) + v1)).toNatClampNeg))]) (rest := [.int v1, .ref (ad 13)]) ⟨hx, hb, hml, hown, hts⟩ (c_M_moved l dC dI cy ad H.size ((((x_aM 21)) (((12 : Int32) + v1)).toNatClampNeg)) q273 e273) (va_cwS 1 hts (goodS m_ml_X8_335 m_st_X8_moved m_in_X8 m_cd_X8_moved) rfl rfl rfl (by decide +kernel) ⟨Nat.le_of_ble_eq_true rfl, Nat.le_of_ble_eq_true rfl⟩) hN hK hP hD hS hA [] [none, none, none, none, none, none, none, none, none, none, none, none, none, none, none, none, none, none, none, none, none, none, none, none, none, none, none, none, none, none, none, none, none, none, none, none, none, none, none, none, none, none, none, none] rfl rfl rfl rfl rfl rfl rfl hl.1 rfl (Nat.le_of_ble_eq_true rfl) dX8_become_273 ⟨Nat.zero_le _, Nat.zero_le _⟩ (fun H locs hP hD hS => ?_)
        refine va_iast (f := (x_aM 21)) hx hb hK hP hD hS 13 0 rfl rfl g_125 dX8_become_276 (fun H locs hP hD hS => ?_)
        have hP : va_P (dC, dI) vwCl (zzM ad cy x_iM (us x_aM [(19, (upd ((x_aM 19)) v1.toNatClampNeg ((((x_aM 19)) (((12 : Int32) + v1)).toNatClampNeg)))), (21, (upd ((x_aM 21)) v1.toNatClampNeg q273))])) H := Eq.mp (congrArg (fun w => va_P (dC, dI) vwCl w H) (stM_aM21 ad cy x_iM x_aM [(19, (upd ((x_aM 19)) v1.toNatClampNeg ((((x_aM 19)) (((12 : Int32) + v1)).toNatClampNeg))))] ((upd ((x_aM 21)) v1.toNatClampNeg q273)))) hP
        have hD : va_D A (zzM ad cy x_iM (us x_aM [(19, (upd ((x_aM 19)) v1.toNatClampNeg ((((x_aM 19)) (((12 : Int32) + v1)).toNatClampNeg)))), (21, (upd ((x_aM 21)) v1.toNatClampNeg q273))])) := Eq.mp (congrArg (fun w => va_D A w) (stM_aM21 ad cy x_iM x_aM [(19, (upd ((x_aM 19)) v1.toNatClampNeg ((((x_aM 19)) (((12 : Int32) + v1)).toNatClampNeg))))] ((upd ((x_aM 21)) v1.toNatClampNeg q273)))) hD
        refine lv_iinc (v := (v1 + (1 : Int32))) (lv' := [(1, .int ((v1 + (1 : Int32)))), (0, .ref (ad 0))]) hx hb dX8_become_277 hl (k := 1) rfl rfl (by decide) rfl (fun ls hl => ?_)
        refine lv_goto (tgt := 238) hx hb dX8_become_280 (by decide) ?_
        exact ih x_iM ((v1 + (1 : Int32))) ((us x_aM [(19, (upd ((x_aM 19)) v1.toNatClampNeg ((((x_aM 19)) (((12 : Int32) + v1)).toNatClampNeg)))), (21, (upd ((x_aM 21)) v1.toNatClampNeg q273))])) H locs ls h hP hD hS (lv_sub hl [1, 0] rfl)
  have B128 : ∀ (n : Nat) (x_iM : Nat → Int32) (v1 : Int32) (x_aM : Nat → Nat → Int32) (H : Heap) (locs : List Loc) (ls : Array Slot), f_M_become_128 N iM aM x_iM n v1 x_aM = some q → va_P (dC, dI) vwCl (zzM ad cy x_iM x_aM) H → va_D A (zzM ad cy x_iM x_aM) → va_S A s.heap H locs → lv_has ls 3 [(0, .ref (ad 0)), (1, .int v1)] → W p l e ({ frames := 5, cells := 0, slots := 0, locals := 120 } : Room) s m args below meth c H locs 0 0 QQ (F0 m 128 ls []) := by
    intro n
    induction n with
    | zero =>
      intro x_iM v1 x_aM H locs ls h hP hD hS hl
      rw [f_M_become_128] at h
      cases h
    | succ n ih =>
      intro x_iM v1 x_aM H locs ls h hP hD hS hl
      rw [f_M_become_128] at h
      refine lv_iload_n hx hb dX8_become_128 rfl (lv_at hl 1 rfl) ?_
      refine lv_aload_n hx hb dX8_become_129 rfl (lv_at hl 0 rfl) ?_
      refine va_get (D := (dC, dI)) (ci := 8) (v := .int ((x_iM 18))) (C := RX8) (T := TX8) (N := 78) hx hb hts ki8 hown hK hP 0 rfl rfl 18 (by decide) kf338 (fun _ h9 => h9) rfl dX8_become_130 ?_
      refine lv_icmp_ge (tgt := 196) hx hb dX8_become_133 (by decide) (fun cz => ?_) (fun cz => ?_)
      · have h := g_t h cz
        refine lv_aload_n hx hb dX8_become_196 rfl (lv_at hl 0 rfl) ?_
        refine lv_aload_n hx hb dX8_become_197 rfl (lv_at hl 0 rfl) ?_
        refine va_get (D := (dC, dI)) (ci := 8) (v := .int ((x_iM 41))) (C := RX8) (T := TX8) (N := 78) hx hb hts ki8 hown hK hP 0 rfl rfl 41 (by decide) kf311 (fun _ h9 => h9) rfl dX8_become_198 ?_
        refine va_put (D := (dC, dI)) (ci := 8) (v := .int ((x_iM 41))) (ty := .int) (C := RX8) (T := TX8) (N := 78) hx hb hts ki8 tyX8 tyX8_ok nmX8 hown hK hP hD hS 0 rfl rfl 20 (by decide) kf341 (fun _ h9 => h9) rfl (by decide +kernel) rfl rfl (Nat.le_of_ble_eq_true rfl) dX8_become_201 (fun H locs hP hD hS => ?_)
        have hP : va_P (dC, dI) vwCl (zzM ad cy (us x_iM [(20, (x_iM 41))]) x_aM) H := Eq.mp (congrArg (fun w => va_P (dC, dI) vwCl w H) (sfM_iM20 ad cy x_iM x_aM ((x_iM 41)))) hP
        have hD : va_D A (zzM ad cy (us x_iM [(20, (x_iM 41))]) x_aM) := Eq.mp (congrArg (fun w => va_D A w) (sfM_iM20 ad cy x_iM x_aM ((x_iM 41)))) hD
        refine lv_aload_n hx hb dX8_become_204 rfl (lv_at hl 0 rfl) ?_
        refine lv_aload_n hx hb dX8_become_205 rfl (lv_at hl 0 rfl) ?_
        refine va_get (D := (dC, dI)) (ci := 8) (v := .int ((x_iM 42))) (C := RX8) (T := TX8) (N := 78) hx hb hts ki8 hown hK hP 0 rfl rfl 42 (by decide) kf305 (fun _ h9 => h9) rfl dX8_become_206 ?_
        refine va_put (D := (dC, dI)) (ci := 8) (v := .int ((x_iM 42))) (ty := .int) (C := RX8) (T := TX8) (N := 78) hx hb hts ki8 tyX8 tyX8_ok nmX8 hown hK hP hD hS 0 rfl rfl 22 (by decide) kf344 (fun _ h9 => h9) rfl (by decide +kernel) rfl rfl (Nat.le_of_ble_eq_true rfl) dX8_become_209 (fun H locs hP hD hS => ?_)
        have hP : va_P (dC, dI) vwCl (zzM ad cy (us x_iM [(20, (x_iM 41)), (22, (x_iM 42))]) x_aM) H := Eq.mp (congrArg (fun w => va_P (dC, dI) vwCl w H) (stM_iM22 ad cy x_iM x_aM [(20, (x_iM 41))] ((x_iM 42)))) hP
        have hD : va_D A (zzM ad cy (us x_iM [(20, (x_iM 41)), (22, (x_iM 42))]) x_aM) := Eq.mp (congrArg (fun w => va_D A w) (stM_iM22 ad cy x_iM x_aM [(20, (x_iM 41))] ((x_iM 42)))) hD
        refine lv_aload_n hx hb dX8_become_212 rfl (lv_at hl 0 rfl) ?_
        refine lv_aload_n hx hb dX8_become_213 rfl (lv_at hl 0 rfl) ?_
        refine va_get (D := (dC, dI)) (ci := 8) (v := .int ((x_iM 43))) (C := RX8) (T := TX8) (N := 78) hx hb hts ki8 hown hK hP 0 rfl rfl 43 (by decide) kf214 (fun _ h9 => h9) rfl dX8_become_214 ?_
        refine va_put (D := (dC, dI)) (ci := 8) (v := .int ((x_iM 43))) (ty := .int) (C := RX8) (T := TX8) (N := 78) hx hb hts ki8 tyX8 tyX8_ok nmX8 hown hK hP hD hS 0 rfl rfl 25 (by decide) kf347 (fun _ h9 => h9) rfl (by decide +kernel) rfl rfl (Nat.le_of_ble_eq_true rfl) dX8_become_217 (fun H locs hP hD hS => ?_)
        have hP : va_P (dC, dI) vwCl (zzM ad cy (us x_iM [(20, (x_iM 41)), (22, (x_iM 42)), (25, (x_iM 43))]) x_aM) H := Eq.mp (congrArg (fun w => va_P (dC, dI) vwCl w H) (stM_iM25 ad cy x_iM x_aM [(20, (x_iM 41)), (22, (x_iM 42))] ((x_iM 43)))) hP
        have hD : va_D A (zzM ad cy (us x_iM [(20, (x_iM 41)), (22, (x_iM 42)), (25, (x_iM 43))]) x_aM) := Eq.mp (congrArg (fun w => va_D A w) (stM_iM25 ad cy x_iM x_aM [(20, (x_iM 41)), (22, (x_iM 42))] ((x_iM 43)))) hD
        refine lv_aload_n hx hb dX8_become_220 rfl (lv_at hl 0 rfl) ?_
        refine lv_aload_n hx hb dX8_become_221 rfl (lv_at hl 0 rfl) ?_
        refine va_get (D := (dC, dI)) (ci := 8) (v := .int ((x_iM 44))) (C := RX8) (T := TX8) (N := 78) hx hb hts ki8 hown hK hP 0 rfl rfl 44 (by decide) kf221 (fun _ h9 => h9) rfl dX8_become_222 ?_
        refine va_put (D := (dC, dI)) (ci := 8) (v := .int ((x_iM 44))) (ty := .int) (C := RX8) (T := TX8) (N := 78) hx hb hts ki8 tyX8 tyX8_ok nmX8 hown hK hP hD hS 0 rfl rfl 28 (by decide) kf350 (fun _ h9 => h9) rfl (by decide +kernel) rfl rfl (Nat.le_of_ble_eq_true rfl) dX8_become_225 (fun H locs hP hD hS => ?_)
        have hP : va_P (dC, dI) vwCl (zzM ad cy (us x_iM [(20, (x_iM 41)), (22, (x_iM 42)), (25, (x_iM 43)), (28, (x_iM 44))]) x_aM) H := Eq.mp (congrArg (fun w => va_P (dC, dI) vwCl w H) (stM_iM28 ad cy x_iM x_aM [(20, (x_iM 41)), (22, (x_iM 42)), (25, (x_iM 43))] ((x_iM 44)))) hP
        have hD : va_D A (zzM ad cy (us x_iM [(20, (x_iM 41)), (22, (x_iM 42)), (25, (x_iM 43)), (28, (x_iM 44))]) x_aM) := Eq.mp (congrArg (fun w => va_D A w) (stM_iM28 ad cy x_iM x_aM [(20, (x_iM 41)), (22, (x_iM 42)), (25, (x_iM 43))] ((x_iM 44)))) hD
        refine lv_aload_n hx hb dX8_become_228 rfl (lv_at hl 0 rfl) ?_
        refine lv_aload_n hx hb dX8_become_229 rfl (lv_at hl 0 rfl) ?_
        refine va_get (D := (dC, dI)) (ci := 8) (v := .int ((x_iM 45))) (C := RX8) (T := TX8) (N := 78) hx hb hts ki8 hown hK hP 0 rfl rfl 45 (by decide) kf234 (fun _ h9 => h9) rfl dX8_become_230 ?_
        refine va_put (D := (dC, dI)) (ci := 8) (v := .int ((x_iM 45))) (ty := .int) (C := RX8) (T := TX8) (N := 78) hx hb hts ki8 tyX8 tyX8_ok nmX8 hown hK hP hD hS 0 rfl rfl 36 (by decide) kf353 (fun _ h9 => h9) rfl (by decide +kernel) rfl rfl (Nat.le_of_ble_eq_true rfl) dX8_become_233 (fun H locs hP hD hS => ?_)
        have hP : va_P (dC, dI) vwCl (zzM ad cy (us x_iM [(20, (x_iM 41)), (22, (x_iM 42)), (25, (x_iM 43)), (28, (x_iM 44)), (36, (x_iM 45))]) x_aM) H := Eq.mp (congrArg (fun w => va_P (dC, dI) vwCl w H) (stM_iM36 ad cy x_iM x_aM [(20, (x_iM 41)), (22, (x_iM 42)), (25, (x_iM 43)), (28, (x_iM 44))] ((x_iM 45)))) hP
        have hD : va_D A (zzM ad cy (us x_iM [(20, (x_iM 41)), (22, (x_iM 42)), (25, (x_iM 43)), (28, (x_iM 44)), (36, (x_iM 45))]) x_aM) := Eq.mp (congrArg (fun w => va_D A w) (stM_iM36 ad cy x_iM x_aM [(20, (x_iM 41)), (22, (x_iM 42)), (25, (x_iM 43)), (28, (x_iM 44))] ((x_iM 45)))) hD
        refine lv_iconst (v := 0) hx hb dX8_become_236 (by decide) ?_
        refine lv_istore_n (lv' := [(1, .int ((0 : Int32))), (0, .ref (ad 0))]) hx hb dX8_become_237 rfl hl (by decide) rfl (fun ls hl => ?_)
        exact B238 N ((us x_iM [(20, (x_iM 41)), (22, (x_iM 42)), (25, (x_iM 43)), (28, (x_iM 44)), (36, (x_iM 45))])) ((0 : Int32)) x_aM H locs ls h hP hD hS (lv_sub hl [1, 0] rfl)
      · have h := g_f h cz
        refine lv_aload_n hx hb dX8_become_136 rfl (lv_at hl 0 rfl) ?_
        refine va_get (D := (dC, dI)) (ci := 8) (v := .ref (ad 9)) (C := RX8) (T := TX8) (N := 78) hx hb hts ki8 hown hK hP 0 rfl rfl 15 (by decide) kf36 (fun _ h9 => h9) rfl dX8_become_137 ?_
        refine lv_iload_n hx hb dX8_become_140 rfl (lv_at hl 1 rfl) ?_
        refine lv_aload_n hx hb dX8_become_141 rfl (lv_at hl 0 rfl) ?_
        refine va_get (D := (dC, dI)) (ci := 8) (v := .ref (ad 9)) (C := RX8) (T := TX8) (N := 78) hx hb hts ki8 hown hK hP 0 rfl rfl 15 (by decide) kf36 (fun _ h9 => h9) rfl dX8_become_142 ?_
        refine lv_sipush (v := 250) hx hb dX8_become_145 (by decide) ?_
        refine lv_iload_n hx hb dX8_become_148 rfl (lv_at hl 1 rfl) ?_
        refine lv_iadd hx hb dX8_become_149 ?_
        obtain ⟨g_126, h⟩ := g_n h
        refine va_iald (f := (x_aM 15)) hx hb hK hP 9 0 rfl rfl g_126 dX8_become_150 ?_
        obtain ⟨g_127, h⟩ := g_n h
        refine va_iast (f := (x_aM 15)) hx hb hK hP hD hS 9 0 rfl rfl g_127 dX8_become_151 (fun H locs hP hD hS => ?_)
        have hP : va_P (dC, dI) vwCl (zzM ad cy x_iM (us x_aM [(15, (upd ((x_aM 15)) v1.toNatClampNeg ((((x_aM 15)) (((250 : Int32) + v1)).toNatClampNeg))))])) H := Eq.mp (congrArg (fun w => va_P (dC, dI) vwCl w H) (sfM_aM15 ad cy x_iM x_aM ((upd ((x_aM 15)) v1.toNatClampNeg ((((x_aM 15)) (((250 : Int32) + v1)).toNatClampNeg)))))) hP
        have hD : va_D A (zzM ad cy x_iM (us x_aM [(15, (upd ((x_aM 15)) v1.toNatClampNeg ((((x_aM 15)) (((250 : Int32) + v1)).toNatClampNeg))))])) := Eq.mp (congrArg (fun w => va_D A w) (sfM_aM15 ad cy x_iM x_aM ((upd ((x_aM 15)) v1.toNatClampNeg ((((x_aM 15)) (((250 : Int32) + v1)).toNatClampNeg)))))) hD
        refine lv_aload_n hx hb dX8_become_152 rfl (lv_at hl 0 rfl) ?_
        refine va_get (D := (dC, dI)) (ci := 8) (v := .ref (ad 10)) (C := RX8) (T := TX8) (N := 78) hx hb hts ki8 hown hK hP 0 rfl rfl 16 (by decide) kf39 (fun _ h9 => h9) rfl dX8_become_153 ?_
        refine lv_iload_n hx hb dX8_become_156 rfl (lv_at hl 1 rfl) ?_
        refine lv_aload_n hx hb dX8_become_157 rfl (lv_at hl 0 rfl) ?_
        refine va_get (D := (dC, dI)) (ci := 8) (v := .ref (ad 10)) (C := RX8) (T := TX8) (N := 78) hx hb hts ki8 hown hK hP 0 rfl rfl 16 (by decide) kf39 (fun _ h9 => h9) rfl dX8_become_158 ?_
        refine lv_sipush (v := 250) hx hb dX8_become_161 (by decide) ?_
        refine lv_iload_n hx hb dX8_become_164 rfl (lv_at hl 1 rfl) ?_
        refine lv_iadd hx hb dX8_become_165 ?_
        refine va_iald (f := (x_aM 16)) hx hb hK hP 10 0 rfl rfl g_126 dX8_become_166 ?_
        obtain ⟨q167, e167, h⟩ := g_b h
        refine callSi (cc := cX8_become) (ws' := zzM ad cy x_iM (us x_aM [(15, (upd ((x_aM 15)) v1.toNatClampNeg ((((x_aM 15)) (((250 : Int32) + v1)).toNatClampNeg))))])) (As := [.int ((((x_aM 16)) (((250 : Int32) + v1)).toNatClampNeg))]) (rest := [.int v1, .ref (ad 10)]) ⟨hx, hb, hml, hown, hts⟩ (c_M_moved l dC dI cy ad H.size ((((x_aM 16)) (((250 : Int32) + v1)).toNatClampNeg)) q167 e167) (va_cwS 1 hts (goodS m_ml_X8_335 m_st_X8_moved m_in_X8 m_cd_X8_moved) rfl rfl rfl (by decide +kernel) ⟨Nat.le_of_ble_eq_true rfl, Nat.le_of_ble_eq_true rfl⟩) hN hK hP hD hS hA [] [none, none, none, none, none, none, none, none, none, none, none, none, none, none, none, none, none, none, none, none, none, none, none, none, none, none, none, none, none, none, none, none, none, none, none, none, none, none, none, none, none, none, none, none] rfl rfl rfl rfl rfl rfl rfl hl.1 rfl (Nat.le_of_ble_eq_true rfl) dX8_become_167 ⟨Nat.zero_le _, Nat.zero_le _⟩ (fun H locs hP hD hS => ?_)
        refine va_iast (f := (x_aM 16)) hx hb hK hP hD hS 10 0 rfl rfl g_127 dX8_become_170 (fun H locs hP hD hS => ?_)
        have hP : va_P (dC, dI) vwCl (zzM ad cy x_iM (us x_aM [(15, (upd ((x_aM 15)) v1.toNatClampNeg ((((x_aM 15)) (((250 : Int32) + v1)).toNatClampNeg)))), (16, (upd ((x_aM 16)) v1.toNatClampNeg q167))])) H := Eq.mp (congrArg (fun w => va_P (dC, dI) vwCl w H) (stM_aM16 ad cy x_iM x_aM [(15, (upd ((x_aM 15)) v1.toNatClampNeg ((((x_aM 15)) (((250 : Int32) + v1)).toNatClampNeg))))] ((upd ((x_aM 16)) v1.toNatClampNeg q167)))) hP
        have hD : va_D A (zzM ad cy x_iM (us x_aM [(15, (upd ((x_aM 15)) v1.toNatClampNeg ((((x_aM 15)) (((250 : Int32) + v1)).toNatClampNeg)))), (16, (upd ((x_aM 16)) v1.toNatClampNeg q167))])) := Eq.mp (congrArg (fun w => va_D A w) (stM_aM16 ad cy x_iM x_aM [(15, (upd ((x_aM 15)) v1.toNatClampNeg ((((x_aM 15)) (((250 : Int32) + v1)).toNatClampNeg))))] ((upd ((x_aM 16)) v1.toNatClampNeg q167)))) hD
        refine lv_aload_n hx hb dX8_become_171 rfl (lv_at hl 0 rfl) ?_
        refine va_get (D := (dC, dI)) (ci := 8) (v := .ref (ad 11)) (C := RX8) (T := TX8) (N := 78) hx hb hts ki8 hown hK hP 0 rfl rfl 17 (by decide) kf42 (fun _ h9 => h9) rfl dX8_become_172 ?_
        refine lv_iload_n hx hb dX8_become_175 rfl (lv_at hl 1 rfl) ?_
        refine lv_aload_n hx hb dX8_become_176 rfl (lv_at hl 0 rfl) ?_
        refine va_get (D := (dC, dI)) (ci := 8) (v := .ref (ad 11)) (C := RX8) (T := TX8) (N := 78) hx hb hts ki8 hown hK hP 0 rfl rfl 17 (by decide) kf42 (fun _ h9 => h9) rfl dX8_become_177 ?_
        refine lv_sipush (v := 250) hx hb dX8_become_180 (by decide) ?_
        refine lv_iload_n hx hb dX8_become_183 rfl (lv_at hl 1 rfl) ?_
        refine lv_iadd hx hb dX8_become_184 ?_
        refine va_iald (f := (x_aM 17)) hx hb hK hP 11 0 rfl rfl g_126 dX8_become_185 ?_
        obtain ⟨q186, e186, h⟩ := g_b h
        refine callSi (cc := cX8_become) (ws' := zzM ad cy x_iM (us x_aM [(15, (upd ((x_aM 15)) v1.toNatClampNeg ((((x_aM 15)) (((250 : Int32) + v1)).toNatClampNeg)))), (16, (upd ((x_aM 16)) v1.toNatClampNeg q167))])) (As := [.int ((((x_aM 17)) (((250 : Int32) + v1)).toNatClampNeg))]) (rest := [.int v1, .ref (ad 11)]) ⟨hx, hb, hml, hown, hts⟩ (c_M_moved l dC dI cy ad H.size ((((x_aM 17)) (((250 : Int32) + v1)).toNatClampNeg)) q186 e186) (va_cwS 1 hts (goodS m_ml_X8_335 m_st_X8_moved m_in_X8 m_cd_X8_moved) rfl rfl rfl (by decide +kernel) ⟨Nat.le_of_ble_eq_true rfl, Nat.le_of_ble_eq_true rfl⟩) hN hK hP hD hS hA [] [none, none, none, none, none, none, none, none, none, none, none, none, none, none, none, none, none, none, none, none, none, none, none, none, none, none, none, none, none, none, none, none, none, none, none, none, none, none, none, none, none, none, none, none] rfl rfl rfl rfl rfl rfl rfl hl.1 rfl (Nat.le_of_ble_eq_true rfl) dX8_become_186 ⟨Nat.zero_le _, Nat.zero_le _⟩ (fun H locs hP hD hS => ?_)
        refine va_iast (f := (x_aM 17)) hx hb hK hP hD hS 11 0 rfl rfl g_127 dX8_become_189 (fun H locs hP hD hS => ?_)
        have hP : va_P (dC, dI) vwCl (zzM ad cy x_iM (us x_aM [(15, (upd ((x_aM 15)) v1.toNatClampNeg ((((x_aM 15)) (((250 : Int32) + v1)).toNatClampNeg)))), (16, (upd ((x_aM 16)) v1.toNatClampNeg q167)), (17, (upd ((x_aM 17)) v1.toNatClampNeg q186))])) H := Eq.mp (congrArg (fun w => va_P (dC, dI) vwCl w H) (stM_aM17 ad cy x_iM x_aM [(15, (upd ((x_aM 15)) v1.toNatClampNeg ((((x_aM 15)) (((250 : Int32) + v1)).toNatClampNeg)))), (16, (upd ((x_aM 16)) v1.toNatClampNeg q167))] ((upd ((x_aM 17)) v1.toNatClampNeg q186)))) hP
        have hD : va_D A (zzM ad cy x_iM (us x_aM [(15, (upd ((x_aM 15)) v1.toNatClampNeg ((((x_aM 15)) (((250 : Int32) + v1)).toNatClampNeg)))), (16, (upd ((x_aM 16)) v1.toNatClampNeg q167)), (17, (upd ((x_aM 17)) v1.toNatClampNeg q186))])) := Eq.mp (congrArg (fun w => va_D A w) (stM_aM17 ad cy x_iM x_aM [(15, (upd ((x_aM 15)) v1.toNatClampNeg ((((x_aM 15)) (((250 : Int32) + v1)).toNatClampNeg)))), (16, (upd ((x_aM 16)) v1.toNatClampNeg q167))] ((upd ((x_aM 17)) v1.toNatClampNeg q186)))) hD
        refine lv_iinc (v := (v1 + (1 : Int32))) (lv' := [(1, .int ((v1 + (1 : Int32)))), (0, .ref (ad 0))]) hx hb dX8_become_190 hl (k := 1) rfl rfl (by decide) rfl (fun ls hl => ?_)
        refine lv_goto (tgt := 128) hx hb dX8_become_193 (by decide) ?_
        exact ih x_iM ((v1 + (1 : Int32))) ((us x_aM [(15, (upd ((x_aM 15)) v1.toNatClampNeg ((((x_aM 15)) (((250 : Int32) + v1)).toNatClampNeg)))), (16, (upd ((x_aM 16)) v1.toNatClampNeg q167)), (17, (upd ((x_aM 17)) v1.toNatClampNeg q186))])) H locs ls h hP hD hS (lv_sub hl [1, 0] rfl)
  have B10 : ∀ (n : Nat) (x_iM : Nat → Int32) (v1 : Int32) (x_aM : Nat → Nat → Int32) (H : Heap) (locs : List Loc) (ls : Array Slot), f_M_become_10 N iM aM x_iM n v1 x_aM = some q → va_P (dC, dI) vwCl (zzM ad cy x_iM x_aM) H → va_D A (zzM ad cy x_iM x_aM) → va_S A s.heap H locs → lv_has ls 3 [(0, .ref (ad 0)), (1, .int v1)] → W p l e ({ frames := 5, cells := 0, slots := 0, locals := 120 } : Room) s m args below meth c H locs 0 0 QQ (F0 m 10 ls []) := by
    intro n
    induction n with
    | zero =>
      intro x_iM v1 x_aM H locs ls h hP hD hS hl
      rw [f_M_become_10] at h
      cases h
    | succ n ih =>
      intro x_iM v1 x_aM H locs ls h hP hD hS hl
      rw [f_M_become_10] at h
      refine lv_iload_n hx hb dX8_become_10 rfl (lv_at hl 1 rfl) ?_
      refine lv_aload_n hx hb dX8_become_11 rfl (lv_at hl 0 rfl) ?_
      refine va_get (D := (dC, dI)) (ci := 8) (v := .int ((x_iM 14))) (C := RX8) (T := TX8) (N := 78) hx hb hts ki8 hown hK hP 0 rfl rfl 14 (by decide) kf332 (fun _ h9 => h9) rfl dX8_become_12 ?_
      refine lv_icmp_ge (tgt := 118) hx hb dX8_become_15 (by decide) (fun cz => ?_) (fun cz => ?_)
      · have h := g_t h cz
        refine lv_aload_n hx hb dX8_become_118 rfl (lv_at hl 0 rfl) ?_
        refine lv_aload_n hx hb dX8_become_119 rfl (lv_at hl 0 rfl) ?_
        refine va_get (D := (dC, dI)) (ci := 8) (v := .int ((x_iM 40))) (C := RX8) (T := TX8) (N := 78) hx hb hts ki8 hown hK hP 0 rfl rfl 40 (by decide) kf295 (fun _ h9 => h9) rfl dX8_become_120 ?_
        refine va_put (D := (dC, dI)) (ci := 8) (v := .int ((x_iM 40))) (ty := .int) (C := RX8) (T := TX8) (N := 78) hx hb hts ki8 tyX8 tyX8_ok nmX8 hown hK hP hD hS 0 rfl rfl 18 (by decide) kf338 (fun _ h9 => h9) rfl (by decide +kernel) rfl rfl (Nat.le_of_ble_eq_true rfl) dX8_become_123 (fun H locs hP hD hS => ?_)
        have hP : va_P (dC, dI) vwCl (zzM ad cy (us x_iM [(18, (x_iM 40))]) x_aM) H := Eq.mp (congrArg (fun w => va_P (dC, dI) vwCl w H) (sfM_iM18 ad cy x_iM x_aM ((x_iM 40)))) hP
        have hD : va_D A (zzM ad cy (us x_iM [(18, (x_iM 40))]) x_aM) := Eq.mp (congrArg (fun w => va_D A w) (sfM_iM18 ad cy x_iM x_aM ((x_iM 40)))) hD
        refine lv_iconst (v := 0) hx hb dX8_become_126 (by decide) ?_
        refine lv_istore_n (lv' := [(1, .int ((0 : Int32))), (0, .ref (ad 0))]) hx hb dX8_become_127 rfl hl (by decide) rfl (fun ls hl => ?_)
        exact B128 N ((us x_iM [(18, (x_iM 40))])) ((0 : Int32)) x_aM H locs ls h hP hD hS (lv_sub hl [1, 0] rfl)
      · have h := g_f h cz
        refine lv_sipush (v := 200) hx hb dX8_become_18 (by decide) ?_
        refine lv_iload_n hx hb dX8_become_21 rfl (lv_at hl 1 rfl) ?_
        refine lv_iadd hx hb dX8_become_22 ?_
        refine lv_istore_n (lv' := [(2, .int (((200 : Int32) + v1))), (0, .ref (ad 0)), (1, .int v1)]) hx hb dX8_become_23 rfl hl (by decide) rfl (fun ls hl => ?_)
        refine lv_aload_n hx hb dX8_become_24 rfl (lv_at hl 1 rfl) ?_
        refine va_get (D := (dC, dI)) (ci := 8) (v := .ref (ad 3)) (C := RX8) (T := TX8) (N := 78) hx hb hts ki8 hown hK hP 0 rfl rfl 8 (by decide) kf17 (fun _ h9 => h9) rfl dX8_become_25 ?_
        refine lv_iload_n hx hb dX8_become_28 rfl (lv_at hl 2 rfl) ?_
        refine lv_aload_n hx hb dX8_become_29 rfl (lv_at hl 1 rfl) ?_
        refine va_get (D := (dC, dI)) (ci := 8) (v := .ref (ad 3)) (C := RX8) (T := TX8) (N := 78) hx hb hts ki8 hown hK hP 0 rfl rfl 8 (by decide) kf17 (fun _ h9 => h9) rfl dX8_become_30 ?_
        refine lv_iload_n hx hb dX8_become_33 rfl (lv_at hl 0 rfl) ?_
        obtain ⟨g_128, h⟩ := g_n h
        refine va_iald (f := (x_aM 8)) hx hb hK hP 3 0 rfl rfl g_128 dX8_become_34 ?_
        obtain ⟨g_62, h⟩ := g_n h
        refine va_iast (f := (x_aM 8)) hx hb hK hP hD hS 3 0 rfl rfl g_62 dX8_become_35 (fun H locs hP hD hS => ?_)
        have hP : va_P (dC, dI) vwCl (zzM ad cy x_iM (us x_aM [(8, (upd ((x_aM 8)) v1.toNatClampNeg ((((x_aM 8)) (((200 : Int32) + v1)).toNatClampNeg))))])) H := Eq.mp (congrArg (fun w => va_P (dC, dI) vwCl w H) (sfM_aM8 ad cy x_iM x_aM ((upd ((x_aM 8)) v1.toNatClampNeg ((((x_aM 8)) (((200 : Int32) + v1)).toNatClampNeg)))))) hP
        have hD : va_D A (zzM ad cy x_iM (us x_aM [(8, (upd ((x_aM 8)) v1.toNatClampNeg ((((x_aM 8)) (((200 : Int32) + v1)).toNatClampNeg))))])) := Eq.mp (congrArg (fun w => va_D A w) (sfM_aM8 ad cy x_iM x_aM ((upd ((x_aM 8)) v1.toNatClampNeg ((((x_aM 8)) (((200 : Int32) + v1)).toNatClampNeg)))))) hD
        refine lv_aload_n hx hb dX8_become_36 rfl (lv_at hl 1 rfl) ?_
        refine va_get (D := (dC, dI)) (ci := 8) (v := .ref (ad 4)) (C := RX8) (T := TX8) (N := 78) hx hb hts ki8 hown hK hP 0 rfl rfl 9 (by decide) kf21 (fun _ h9 => h9) rfl dX8_become_37 ?_
        refine lv_iload_n hx hb dX8_become_40 rfl (lv_at hl 2 rfl) ?_
        refine lv_aload_n hx hb dX8_become_41 rfl (lv_at hl 1 rfl) ?_
        refine va_get (D := (dC, dI)) (ci := 8) (v := .ref (ad 3)) (C := RX8) (T := TX8) (N := 78) hx hb hts ki8 hown hK hP 0 rfl rfl 8 (by decide) kf17 (fun _ h9 => h9) rfl dX8_become_42 ?_
        refine lv_iload_n hx hb dX8_become_45 rfl (lv_at hl 0 rfl) ?_
        refine va_iald (f := (upd ((x_aM 8)) v1.toNatClampNeg ((((x_aM 8)) (((200 : Int32) + v1)).toNatClampNeg)))) hx hb hK hP 3 0 rfl rfl g_128 dX8_become_46 ?_
        refine lv_iconst (v := 5) hx hb dX8_become_47 (by decide) ?_
        refine lv_icmp_le (tgt := 63) hx hb dX8_become_48 (by decide) (fun cz => ?_) (fun cz => ?_)
        · have h := g_t h cz
          refine lv_aload_n hx hb dX8_become_63 rfl (lv_at hl 1 rfl) ?_
          refine va_get (D := (dC, dI)) (ci := 8) (v := .ref (ad 4)) (C := RX8) (T := TX8) (N := 78) hx hb hts ki8 hown hK hP 0 rfl rfl 9 (by decide) kf21 (fun _ h9 => h9) rfl dX8_become_64 ?_
          refine lv_iload_n hx hb dX8_become_67 rfl (lv_at hl 0 rfl) ?_
          refine va_iald (f := (x_aM 9)) hx hb hK hP 4 0 rfl rfl g_128 dX8_become_68 ?_
          exact B69 v1 (((200 : Int32) + v1)) v1 ((((x_aM 9)) (((200 : Int32) + v1)).toNatClampNeg)) x_iM ((us x_aM [(8, (upd ((x_aM 8)) v1.toNatClampNeg ((((x_aM 8)) (((200 : Int32) + v1)).toNatClampNeg))))])) (f_M_become_10 N iM aM x_iM n) (ih x_iM) H locs ls h hP hD hS (lv_sub hl [1, 2, 0] rfl)
        · have h := g_f h cz
          refine lv_aload_n hx hb dX8_become_51 rfl (lv_at hl 1 rfl) ?_
          refine va_get (D := (dC, dI)) (ci := 8) (v := .ref (ad 4)) (C := RX8) (T := TX8) (N := 78) hx hb hts ki8 hown hK hP 0 rfl rfl 9 (by decide) kf21 (fun _ h9 => h9) rfl dX8_become_52 ?_
          refine lv_iload_n hx hb dX8_become_55 rfl (lv_at hl 0 rfl) ?_
          refine va_iald (f := (x_aM 9)) hx hb hK hP 4 0 rfl rfl g_128 dX8_become_56 ?_
          obtain ⟨q57, e57, h⟩ := g_b h
          refine callSi (cc := cX8_become) (ws' := zzM ad cy x_iM (us x_aM [(8, (upd ((x_aM 8)) v1.toNatClampNeg ((((x_aM 8)) (((200 : Int32) + v1)).toNatClampNeg))))])) (As := [.int ((((x_aM 9)) (((200 : Int32) + v1)).toNatClampNeg))]) (rest := [.int v1, .ref (ad 4)]) ⟨hx, hb, hml, hown, hts⟩ (c_M_moved l dC dI cy ad H.size ((((x_aM 9)) (((200 : Int32) + v1)).toNatClampNeg)) q57 e57) (va_cwS 1 hts (goodS m_ml_X8_335 m_st_X8_moved m_in_X8 m_cd_X8_moved) rfl rfl rfl (by decide +kernel) ⟨Nat.le_of_ble_eq_true rfl, Nat.le_of_ble_eq_true rfl⟩) hN hK hP hD hS hA [] [none, none, none, none, none, none, none, none, none, none, none, none, none, none, none, none, none, none, none, none, none, none, none, none, none, none, none, none, none, none, none, none, none, none, none, none, none, none, none, none, none, none, none, none] rfl rfl rfl rfl rfl rfl rfl hl.1 rfl (Nat.le_of_ble_eq_true rfl) dX8_become_57 ⟨Nat.zero_le _, Nat.zero_le _⟩ (fun H locs hP hD hS => ?_)
          refine lv_goto (tgt := 69) hx hb dX8_become_60 (by decide) ?_
          exact B69 v1 (((200 : Int32) + v1)) v1 q57 x_iM ((us x_aM [(8, (upd ((x_aM 8)) v1.toNatClampNeg ((((x_aM 8)) (((200 : Int32) + v1)).toNatClampNeg))))])) (f_M_become_10 N iM aM x_iM n) (ih x_iM) H locs ls h hP hD hS (lv_sub hl [1, 2, 0] rfl)
  intro H locs hP hD hS
  unfold f_M_become at h
  refine lv_aload_n hx hb dX8_become_0 rfl (lv_at hl 0 rfl) ?_
  refine lv_aload_n hx hb dX8_become_1 rfl (lv_at hl 0 rfl) ?_
  refine va_get (D := (dC, dI)) (ci := 8) (v := .int ((iM 38))) (C := RX8) (T := TX8) (N := 78) hx hb hts ki8 hown hK hP 0 rfl rfl 38 (by decide) kf211 (fun _ h9 => h9) rfl dX8_become_2 ?_
  refine va_put (D := (dC, dI)) (ci := 8) (v := .int ((iM 38))) (ty := .int) (C := RX8) (T := TX8) (N := 78) hx hb hts ki8 tyX8 tyX8_ok nmX8 hown hK hP hD hS 0 rfl rfl 14 (by decide) kf332 (fun _ h9 => h9) rfl (by decide +kernel) rfl rfl (Nat.le_of_ble_eq_true rfl) dX8_become_5 (fun H locs hP hD hS => ?_)
  have hP : va_P (dC, dI) vwCl (zzM ad cy (us iM [(14, (iM 38))]) aM) H := Eq.mp (congrArg (fun w => va_P (dC, dI) vwCl w H) (sfM_iM14 ad cy iM aM ((iM 38)))) hP
  have hD : va_D A (zzM ad cy (us iM [(14, (iM 38))]) aM) := Eq.mp (congrArg (fun w => va_D A w) (sfM_iM14 ad cy iM aM ((iM 38)))) hD
  refine lv_iconst (v := 0) hx hb dX8_become_8 (by decide) ?_
  refine lv_istore_n (lv' := [(1, .int ((0 : Int32))), (0, .ref (ad 0))]) hx hb dX8_become_9 rfl hl (by decide) rfl (fun ls hl => ?_)
  exact B10 N ((us iM [(14, (iM 38))])) ((0 : Int32)) aM H locs ls h hP hD hS (lv_sub hl [1, 0] rfl)
