def f_M_stand_87 (N : Nat) (iM : Nat → Int32) (aM : Nat → Nat → Int32) (k5 : (Nat → Int32) → (Nat → Nat → Int32) → Option ((Nat → Int32) × (Nat → Nat → Int32))) (v2 : Int32) (x_iM : Nat → Int32) (x_aM : Nat → Nat → Int32) : Option ((Nat → Int32) × (Nat → Nat → Int32)) := k5 ((us x_iM [(55, v2)])) x_aM
def f_M_stand_95 (N : Nat) (iM : Nat → Int32) (aM : Nat → Nat → Int32) (x_iM : Nat → Int32) (x_aM : Nat → Nat → Int32) : Option ((Nat → Int32) × (Nat → Nat → Int32)) := some ((us x_iM [(56, (0 : Int32))]), x_aM)
def f_M_stand_5 (N : Nat) (iM : Nat → Int32) (aM : Nat → Nat → Int32)  : Nat → (Nat → Int32) → (Nat → Nat → Int32) → Option ((Nat → Int32) × (Nat → Nat → Int32))
  | 0, _, _ => none
  | n + 1, x_iM, x_aM => (f_M_fine ((x_iM 46))).bind fun q6 => (if q6 = 0 then (f_M_stand_95 N iM aM x_iM x_aM) else (if ((x_iM 54) - (1 : Int32)) < 0 ∨ 500 ≤ (((x_iM 54) - (1 : Int32))).toNatClampNeg then none else (if (((x_aM 52)) (((x_iM 54) - (1 : Int32))).toNatClampNeg) = (2 : Int32) then (if (((x_aM 53)) (((x_iM 54) - (1 : Int32))).toNatClampNeg) < 0 ∨ 400 ≤ ((((x_aM 53)) (((x_iM 54) - (1 : Int32))).toNatClampNeg)).toNatClampNeg then none else ((f_M_ended ((((x_aM 53)) (((x_iM 54) - (1 : Int32))).toNatClampNeg)) ((x_iM 39)) ((x_aM 13))).bind fun q69 => (if (((x_aM 8)) ((((x_aM 53)) (((x_iM 54) - (1 : Int32))).toNatClampNeg)).toNatClampNeg) = (3 : Int32) then (f_M_stand_87 N iM aM (f_M_stand_5 N iM aM n) ((((x_aM 53)) (((x_iM 54) - (1 : Int32))).toNatClampNeg)) ((us x_iM [(39, q69.1), (49, ((x_iM 49) - (1 : Int32))), (54, ((x_iM 54) - (1 : Int32)))])) ((us x_aM [(10, (upd ((x_aM 10)) ((((x_aM 53)) (((x_iM 54) - (1 : Int32))).toNatClampNeg)).toNatClampNeg ((x_iM 55)))), (13, q69.2)]))) else ((f_M_findAtom N ((((x_aM 53)) (((x_iM 54) - (1 : Int32))).toNatClampNeg)) ((x_iM 45)) ((x_iM 46)) ((x_iM 47)) ((x_aM 8)) ((x_aM 9)) ((upd ((x_aM 10)) ((((x_aM 53)) (((x_iM 54) - (1 : Int32))).toNatClampNeg)).toNatClampNeg ((x_iM 55)))) ((x_aM 11)) ((x_aM 12)) ((x_aM 32)) ((x_aM 33)) ((x_aM 34)) ((x_aM 35)) ((x_aM 50)) ((x_aM 51))).bind fun q84 => (f_M_stand_87 N iM aM (f_M_stand_5 N iM aM n) ((((x_aM 53)) (((x_iM 54) - (1 : Int32))).toNatClampNeg)) ((us x_iM [(39, q69.1), (45, q84.1), (46, q84.2.1), (47, q84.2.2.1), (49, ((x_iM 49) - (1 : Int32))), (54, ((x_iM 54) - (1 : Int32)))])) ((us x_aM [(10, (upd ((x_aM 10)) ((((x_aM 53)) (((x_iM 54) - (1 : Int32))).toNatClampNeg)).toNatClampNeg ((x_iM 55)))), (11, q84.2.2.2.1), (13, q69.2), (32, q84.2.2.2.2.1), (33, q84.2.2.2.2.2.1), (34, q84.2.2.2.2.2.2.1), (35, q84.2.2.2.2.2.2.2.1), (50, q84.2.2.2.2.2.2.2.2.1), (51, q84.2.2.2.2.2.2.2.2.2)]))))))) else (f_M_stand_95 N iM aM x_iM x_aM))))
def f_M_stand (N : Nat) (a1 : Int32) (iM : Nat → Int32) (aM : Nat → Nat → Int32) : Option ((Nat → Int32) × (Nat → Nat → Int32)) := f_M_stand_5 N iM aM N ((us iM [(55, a1)])) aM
set_option maxHeartbeats 8000000 in
set_option maxRecDepth 100000 in
theorem c_M_stand (l : Launch) (dC : Nat → ClassId) (dI : Nat → Nat → Nat) (cy : Nat → ClassId) (ad : Nat → Nat) (sz : Nat) (N : Nat) (a1 : Int32) (iM : Nat → Int32) (aM : Nat → Nat → Int32) (q : (Nat → Int32) × (Nat → Nat → Int32)) (h : f_M_stand N a1 iM aM = some q) : Met l yX8_stand wsX8_stand ({ frames := 3, cells := 0, slots := 0, locals := 71 } : Room) (cP (dC, dI) cy [.ref (ad 0), .int a1] (zzM ad cy iM aM) sz) (cQv (dC, dI) cy (zzM ad cy q.1 q.2) (va_A (zzM ad cy iM aM) sz)) 0 0 (va_A (zzM ad cy iM aM) sz) := by
  refine Met.ofW (cc := cX8_stand) (maxL := 3) (ret := none) (by decide) rfl ?_
  intro p e s m args below meth c s₁ B hml hv
  obtain ⟨hav, hsz, hP, hK, hD0, hN⟩ := hv
  have hx := B.exec
  have hb := B.bytes
  have hr := B.returns
  have hts := atoms_spec (ws := wsX8_stand) B.pre
  have hown : s.vm.findClass RX8 = some m.cls := findClass_of_methodNamed B.named
  have hlocks := B.notSynchronized
  subst hsz
  have hD := hD0.self (sz := s.heap.size)
  generalize hAe : va_A (zzM ad cy iM aM) s.heap.size = A at hD ⊢
  have hA : ∀ q : Nat, s.heap.size ≤ q → A q := fun q h => by rw [← hAe]; exact Or.inr h
  have hS : va_S A s.heap s.heap [] := va_S.rf
  generalize hWQ : (zzM ad cy q.1 q.2) = WQ
  generalize hQQ : MQ below (cQv (dC, dI) cy WQ A) args s 0 0 A = QQ
  have hl := lv_entry ([.ref (ad 0), .int a1] : List Value) (n := 3) (Nat.le_of_ble_eq_true rfl)
  have hfr := lg_entry_eq m ([.ref (ad 0), .int a1] : List Value) 3
  rw [← hav] at hfr
  rw [hfr]
  clear hfr hav
  generalize (lg_sl ([.ref (ad 0), .int a1] : List Value) ++ List.replicate (3 - (lg_sl ([.ref (ad 0), .int a1] : List Value)).length) Slot.unset).toArray = ls at hl ⊢
  have hl : lv_has ls 3 [(0, .ref (ad 0)), (1, .int a1)] := hl
  have kf251 := hts _ (List.mem_cons_of_mem _ m_fl_X8_251)
  have ki8 := (fun w h => List.mem_cons_of_mem _ (i_X8 w h) : ∀ w ∈ u_ws RX8 TX8 78, w ∈ wsX8_stand)
  have kf263 := hts _ (List.mem_cons_of_mem _ m_fl_X8_263)
  have kf95 := hts _ (List.mem_cons_of_mem _ m_fl_X8_95)
  have kf248 := hts _ (List.mem_cons_of_mem _ m_fl_X8_248)
  have kf254 := hts _ (List.mem_cons_of_mem _ m_fl_X8_254)
  have kf98 := hts _ (List.mem_cons_of_mem _ m_fl_X8_98)
  have kf24 := hts _ (List.mem_cons_of_mem _ m_fl_X8_24)
  have kf17 := hts _ (List.mem_cons_of_mem _ m_fl_X8_17)
  refine (?_ : ∀ (H : Heap) (locs : List Loc), va_P (dC, dI) vwCl (zzM ad cy iM aM) H → va_D A (zzM ad cy iM aM) → va_S A s.heap H locs → W p l e ({ frames := 3, cells := 0, slots := 0, locals := 71 } : Room) s m args below meth c H locs 0 0 QQ (F0 m 0 ls [])) s.heap [] hP hD hS
  clear hP hD hS
  have B87 : ∀ (v2 : Int32) (x_iM : Nat → Int32) (x_aM : Nat → Nat → Int32) (k5 : (Nat → Int32) → (Nat → Nat → Int32) → Option ((Nat → Int32) × (Nat → Nat → Int32))) (hk5 : ∀ (x_iM' : Nat → Int32) (x_aM' : Nat → Nat → Int32) (H : Heap) (locs : List Loc) (ls : Array Slot), k5 x_iM' x_aM' = some q → va_P (dC, dI) vwCl (zzM ad cy x_iM' x_aM') H → va_D A (zzM ad cy x_iM' x_aM') → va_S A s.heap H locs → lv_has ls 3 [(0, .ref (ad 0))] → W p l e ({ frames := 3, cells := 0, slots := 0, locals := 71 } : Room) s m args below meth c H locs 0 0 QQ (F0 m 5 ls [])) (H : Heap) (locs : List Loc) (ls : Array Slot), f_M_stand_87 N iM aM k5 v2 x_iM x_aM = some q → va_P (dC, dI) vwCl (zzM ad cy x_iM x_aM) H → va_D A (zzM ad cy x_iM x_aM) → va_S A s.heap H locs → lv_has ls 3 [(0, .ref (ad 0)), (2, .int v2)] → W p l e ({ frames := 3, cells := 0, slots := 0, locals := 71 } : Room) s m args below meth c H locs 0 0 QQ (F0 m 87 ls []) := by
    intro v2 x_iM x_aM k5 hk5 H locs ls h hP hD hS hl
    unfold f_M_stand_87 at h
    refine lv_aload_n hx hb dX8_stand_87 rfl (lv_at hl 0 rfl) ?_
    refine lv_iload_n hx hb dX8_stand_88 rfl (lv_at hl 1 rfl) ?_
    refine va_put (D := (dC, dI)) (ci := 8) (v := .int v2) (ty := .int) (C := RX8) (T := TX8) (N := 78) hx hb hts ki8 tyX8 tyX8_ok nmX8 hown hK hP hD hS 0 rfl rfl 55 (by decide) kf251 (fun _ h9 => h9) rfl (by decide +kernel) rfl rfl (Nat.le_of_ble_eq_true rfl) dX8_stand_89 (fun H locs hP hD hS => ?_)
    have hP : va_P (dC, dI) vwCl (zzM ad cy (us x_iM [(55, v2)]) x_aM) H := Eq.mp (congrArg (fun w => va_P (dC, dI) vwCl w H) (sfM_iM55 ad cy x_iM x_aM v2)) hP
    have hD : va_D A (zzM ad cy (us x_iM [(55, v2)]) x_aM) := Eq.mp (congrArg (fun w => va_D A w) (sfM_iM55 ad cy x_iM x_aM v2)) hD
    refine lv_goto (tgt := 5) hx hb dX8_stand_92 (by decide) ?_
    exact hk5 ((us x_iM [(55, v2)])) x_aM H locs ls h hP hD hS (lv_sub hl [0] rfl)
  have B95 : ∀ (x_iM : Nat → Int32) (x_aM : Nat → Nat → Int32) (H : Heap) (locs : List Loc) (ls : Array Slot), f_M_stand_95 N iM aM x_iM x_aM = some q → va_P (dC, dI) vwCl (zzM ad cy x_iM x_aM) H → va_D A (zzM ad cy x_iM x_aM) → va_S A s.heap H locs → lv_has ls 3 [(0, .ref (ad 0))] → W p l e ({ frames := 3, cells := 0, slots := 0, locals := 71 } : Room) s m args below meth c H locs 0 0 QQ (F0 m 95 ls []) := by
    intro x_iM x_aM H locs ls h hP hD hS hl
    unfold f_M_stand_95 at h
    refine lv_aload_n hx hb dX8_stand_95 rfl (lv_at hl 0 rfl) ?_
    refine lv_iconst (v := 0) hx hb dX8_stand_96 (by decide) ?_
    refine va_put (D := (dC, dI)) (ci := 8) (v := .int ((0 : Int32))) (ty := .boolean) (C := RX8) (T := TX8) (N := 78) hx hb hts ki8 tyX8 tyX8_ok nmX8 hown hK hP hD hS 0 rfl rfl 56 (by decide) kf263 (fun _ h9 => h9) rfl (by decide +kernel) rfl rfl (Nat.le_of_ble_eq_true rfl) dX8_stand_97 (fun H locs hP hD hS => ?_)
    have hP : va_P (dC, dI) vwCl (zzM ad cy (us x_iM [(56, (0 : Int32))]) x_aM) H := Eq.mp (congrArg (fun w => va_P (dC, dI) vwCl w H) (sfM_iM56 ad cy x_iM x_aM ((0 : Int32)))) hP
    have hD : va_D A (zzM ad cy (us x_iM [(56, (0 : Int32))]) x_aM) := Eq.mp (congrArg (fun w => va_D A w) (sfM_iM56 ad cy x_iM x_aM ((0 : Int32)))) hD
    have h' := Option.some.inj h
    rw [← hQQ]
    exact W.vret hx hb hr (fun t ht hW => ⟨⟨(), rfl, trivial, by rw [← hWQ, ← h', ht]; exact hP, va_K.moved hW.alike hK⟩, hS.F ht⟩) hS.2.2 dX8_stand_100
  have B5 : ∀ (n : Nat) (x_iM : Nat → Int32) (x_aM : Nat → Nat → Int32) (H : Heap) (locs : List Loc) (ls : Array Slot), f_M_stand_5 N iM aM n x_iM x_aM = some q → va_P (dC, dI) vwCl (zzM ad cy x_iM x_aM) H → va_D A (zzM ad cy x_iM x_aM) → va_S A s.heap H locs → lv_has ls 3 [(0, .ref (ad 0))] → W p l e ({ frames := 3, cells := 0, slots := 0, locals := 71 } : Room) s m args below meth c H locs 0 0 QQ (F0 m 5 ls []) := by
    intro n
    induction n with
    | zero =>
      intro x_iM x_aM H locs ls h hP hD hS hl
      rw [f_M_stand_5] at h
      cases h
    | succ n ih =>
      intro x_iM x_aM H locs ls h hP hD hS hl
      rw [f_M_stand_5] at h
      refine lv_aload_n hx hb dX8_stand_5 rfl (lv_at hl 0 rfl) ?_
      obtain ⟨q6, e6, h⟩ := g_b h
      refine callVis (cc := cX8_stand) (w1 := zzM ad cy x_iM x_aM) (As := []) (rest := []) ⟨hx, hb, hml, hown, hts⟩ (c_M_fine l dC dI cy ad H.size x_iM x_aM q6 e6) (cwV 0 hts (goodV m_ml_X8_198 m_im_X8_fine m_se_X8_fine m_in_X8 m_cd_X8_fine) rfl rfl rfl (by decide +kernel) ⟨Nat.le_of_ble_eq_true rfl, Nat.le_of_ble_eq_true rfl⟩) hN hK hP hD hS hA rfl 0 rfl rfl rfl hl.1 rfl (Nat.le_of_ble_eq_true rfl) dX8_stand_6 ⟨Nat.zero_le _, Nat.zero_le _⟩ (fun H locs hP hD hS => ?_)
      refine lv_if_eq (tgt := 95) hx hb dX8_stand_9 (by decide) (fun cz => ?_) (fun cz => ?_)
      · have h := g_t h cz
        exact B95 x_iM x_aM H locs ls h hP hD hS (lv_sub hl [0] rfl)
      · have h := g_f h cz
        refine lv_aload_n hx hb dX8_stand_12 rfl (lv_at hl 0 rfl) ?_
        refine va_get (D := (dC, dI)) (ci := 8) (v := .ref (ad 27)) (C := RX8) (T := TX8) (N := 78) hx hb hts ki8 hown hK hP 0 rfl rfl 52 (by decide) kf95 (fun _ h9 => h9) rfl dX8_stand_13 ?_
        refine lv_aload_n hx hb dX8_stand_16 rfl (lv_at hl 0 rfl) ?_
        refine va_get (D := (dC, dI)) (ci := 8) (v := .int ((x_iM 54))) (C := RX8) (T := TX8) (N := 78) hx hb hts ki8 hown hK hP 0 rfl rfl 54 (by decide) kf248 (fun _ h9 => h9) rfl dX8_stand_17 ?_
        refine lv_iconst (v := 1) hx hb dX8_stand_20 (by decide) ?_
        refine lv_isub hx hb dX8_stand_21 ?_
        obtain ⟨g_78, h⟩ := g_n h
        refine va_iald (f := (x_aM 52)) hx hb hK hP 27 0 rfl rfl g_78 dX8_stand_22 ?_
        refine lv_iconst (v := 2) hx hb dX8_stand_23 (by decide) ?_
        refine lv_icmp_ne (tgt := 95) hx hb dX8_stand_24 (by decide) (fun cz => ?_) (fun cz => ?_)
        · have h := g_f h cz
          exact B95 x_iM x_aM H locs ls h hP hD hS (lv_sub hl [0] rfl)
        · have h := g_t h cz
          refine lv_aload_n hx hb dX8_stand_27 rfl (lv_at hl 0 rfl) ?_
          refine lv_dup hx hb dX8_stand_28 rfl ?_
          refine va_get (D := (dC, dI)) (ci := 8) (v := .int ((x_iM 54))) (C := RX8) (T := TX8) (N := 78) hx hb hts ki8 hown hK hP 0 rfl rfl 54 (by decide) kf248 (fun _ h9 => h9) rfl dX8_stand_29 ?_
          refine lv_iconst (v := 1) hx hb dX8_stand_32 (by decide) ?_
          refine lv_isub hx hb dX8_stand_33 ?_
          refine va_put (D := (dC, dI)) (ci := 8) (v := .int (((x_iM 54) - (1 : Int32)))) (ty := .int) (C := RX8) (T := TX8) (N := 78) hx hb hts ki8 tyX8 tyX8_ok nmX8 hown hK hP hD hS 0 rfl rfl 54 (by decide) kf248 (fun _ h9 => h9) rfl (by decide +kernel) rfl rfl (Nat.le_of_ble_eq_true rfl) dX8_stand_34 (fun H locs hP hD hS => ?_)
          have hP : va_P (dC, dI) vwCl (zzM ad cy (us x_iM [(54, ((x_iM 54) - (1 : Int32)))]) x_aM) H := Eq.mp (congrArg (fun w => va_P (dC, dI) vwCl w H) (sfM_iM54 ad cy x_iM x_aM (((x_iM 54) - (1 : Int32))))) hP
          have hD : va_D A (zzM ad cy (us x_iM [(54, ((x_iM 54) - (1 : Int32)))]) x_aM) := Eq.mp (congrArg (fun w => va_D A w) (sfM_iM54 ad cy x_iM x_aM (((x_iM 54) - (1 : Int32))))) hD
          refine lv_aload_n hx hb dX8_stand_37 rfl (lv_at hl 0 rfl) ?_
          refine lv_dup hx hb dX8_stand_38 rfl ?_
          refine va_get (D := (dC, dI)) (ci := 8) (v := .int ((x_iM 49))) (C := RX8) (T := TX8) (N := 78) hx hb hts ki8 hown hK hP 0 rfl rfl 49 (by decide) kf254 (fun _ h9 => h9) rfl dX8_stand_39 ?_
          refine lv_iconst (v := 1) hx hb dX8_stand_42 (by decide) ?_
          refine lv_isub hx hb dX8_stand_43 ?_
          refine va_put (D := (dC, dI)) (ci := 8) (v := .int (((x_iM 49) - (1 : Int32)))) (ty := .int) (C := RX8) (T := TX8) (N := 78) hx hb hts ki8 tyX8 tyX8_ok nmX8 hown hK hP hD hS 0 rfl rfl 49 (by decide) kf254 (fun _ h9 => h9) rfl (by decide +kernel) rfl rfl (Nat.le_of_ble_eq_true rfl) dX8_stand_44 (fun H locs hP hD hS => ?_)
          have hP : va_P (dC, dI) vwCl (zzM ad cy (us x_iM [(49, ((x_iM 49) - (1 : Int32))), (54, ((x_iM 54) - (1 : Int32)))]) x_aM) H := Eq.mp (congrArg (fun w => va_P (dC, dI) vwCl w H) (stM_iM49 ad cy x_iM x_aM [(54, ((x_iM 54) - (1 : Int32)))] (((x_iM 49) - (1 : Int32))))) hP
          have hD : va_D A (zzM ad cy (us x_iM [(49, ((x_iM 49) - (1 : Int32))), (54, ((x_iM 54) - (1 : Int32)))]) x_aM) := Eq.mp (congrArg (fun w => va_D A w) (stM_iM49 ad cy x_iM x_aM [(54, ((x_iM 54) - (1 : Int32)))] (((x_iM 49) - (1 : Int32))))) hD
          refine lv_aload_n hx hb dX8_stand_47 rfl (lv_at hl 0 rfl) ?_
          refine va_get (D := (dC, dI)) (ci := 8) (v := .ref (ad 28)) (C := RX8) (T := TX8) (N := 78) hx hb hts ki8 hown hK hP 0 rfl rfl 53 (by decide) kf98 (fun _ h9 => h9) rfl dX8_stand_48 ?_
          refine lv_aload_n hx hb dX8_stand_51 rfl (lv_at hl 0 rfl) ?_
          refine va_get (D := (dC, dI)) (ci := 8) (v := .int (((x_iM 54) - (1 : Int32)))) (C := RX8) (T := TX8) (N := 78) hx hb hts ki8 hown hK hP 0 rfl rfl 54 (by decide) kf248 (fun _ h9 => h9) rfl dX8_stand_52 ?_
          refine va_iald (f := (x_aM 53)) hx hb hK hP 28 0 rfl rfl g_78 dX8_stand_55 ?_
          refine lv_istore_n (lv' := [(2, .int ((((x_aM 53)) (((x_iM 54) - (1 : Int32))).toNatClampNeg))), (0, .ref (ad 0))]) hx hb dX8_stand_56 rfl hl (by decide) rfl (fun ls hl => ?_)
          refine lv_aload_n hx hb dX8_stand_57 rfl (lv_at hl 1 rfl) ?_
          refine va_get (D := (dC, dI)) (ci := 8) (v := .ref (ad 5)) (C := RX8) (T := TX8) (N := 78) hx hb hts ki8 hown hK hP 0 rfl rfl 10 (by decide) kf24 (fun _ h9 => h9) rfl dX8_stand_58 ?_
          refine lv_iload_n hx hb dX8_stand_61 rfl (lv_at hl 0 rfl) ?_
          refine lv_aload_n hx hb dX8_stand_62 rfl (lv_at hl 1 rfl) ?_
          refine va_get (D := (dC, dI)) (ci := 8) (v := .int ((x_iM 55))) (C := RX8) (T := TX8) (N := 78) hx hb hts ki8 hown hK hP 0 rfl rfl 55 (by decide) kf251 (fun _ h9 => h9) rfl dX8_stand_63 ?_
          obtain ⟨g_79, h⟩ := g_n h
          refine va_iast (f := (x_aM 10)) hx hb hK hP hD hS 5 0 rfl rfl g_79 dX8_stand_66 (fun H locs hP hD hS => ?_)
          have hP : va_P (dC, dI) vwCl (zzM ad cy (us x_iM [(49, ((x_iM 49) - (1 : Int32))), (54, ((x_iM 54) - (1 : Int32)))]) (us x_aM [(10, (upd ((x_aM 10)) ((((x_aM 53)) (((x_iM 54) - (1 : Int32))).toNatClampNeg)).toNatClampNeg ((x_iM 55))))])) H := Eq.mp (congrArg (fun w => va_P (dC, dI) vwCl w H) (sfM_aM10 ad cy (us x_iM [(49, ((x_iM 49) - (1 : Int32))), (54, ((x_iM 54) - (1 : Int32)))]) x_aM ((upd ((x_aM 10)) ((((x_aM 53)) (((x_iM 54) - (1 : Int32))).toNatClampNeg)).toNatClampNeg ((x_iM 55)))))) hP
          have hD : va_D A (zzM ad cy (us x_iM [(49, ((x_iM 49) - (1 : Int32))), (54, ((x_iM 54) - (1 : Int32)))]) (us x_aM [(10, (upd ((x_aM 10)) ((((x_aM 53)) (((x_iM 54) - (1 : Int32))).toNatClampNeg)).toNatClampNeg ((x_iM 55))))])) := Eq.mp (congrArg (fun w => va_D A w) (sfM_aM10 ad cy (us x_iM [(49, ((x_iM 49) - (1 : Int32))), (54, ((x_iM 54) - (1 : Int32)))]) x_aM ((upd ((x_aM 10)) ((((x_aM 53)) (((x_iM 54) - (1 : Int32))).toNatClampNeg)).toNatClampNeg ((x_iM 55)))))) hD
          refine lv_aload_n hx hb dX8_stand_67 rfl (lv_at hl 1 rfl) ?_
          refine lv_iload_n hx hb dX8_stand_68 rfl (lv_at hl 0 rfl) ?_
          obtain ⟨q69, e69, h⟩ := g_b h
          refine callVvs (cc := cX8_stand) (w1 := zzM ad cy (us x_iM [(39, q69.1), (49, ((x_iM 49) - (1 : Int32))), (54, ((x_iM 54) - (1 : Int32)))]) (us x_aM [(10, (upd ((x_aM 10)) ((((x_aM 53)) (((x_iM 54) - (1 : Int32))).toNatClampNeg)).toNatClampNeg ((x_iM 55)))), (13, q69.2)])) (As := [.int ((((x_aM 53)) (((x_iM 54) - (1 : Int32))).toNatClampNeg))]) (rest := []) ⟨hx, hb, hml, hown, hts⟩ (c_M_ended l dC dI cy ad H.size ((((x_aM 53)) (((x_iM 54) - (1 : Int32))).toNatClampNeg)) ((us x_iM [(49, ((x_iM 49) - (1 : Int32))), (54, ((x_iM 54) - (1 : Int32)))])) ((us x_aM [(10, (upd ((x_aM 10)) ((((x_aM 53)) (((x_iM 54) - (1 : Int32))).toNatClampNeg)).toNatClampNeg ((x_iM 55))))])) q69 e69) (cwV 1 hts (goodV m_ml_X8_257 m_im_X8_ended m_se_X8_ended m_in_X8 m_cd_X8_ended) rfl rfl rfl (by decide +kernel) ⟨Nat.le_of_ble_eq_true rfl, Nat.le_of_ble_eq_true rfl⟩) hN hK hP hD hS hA rfl 0 rfl rfl rfl hl.1 rfl (Nat.le_of_ble_eq_true rfl) dX8_stand_69 ⟨Nat.zero_le _, Nat.zero_le _⟩ (fun H locs hP hD hS => ?_)
          refine lv_aload_n hx hb dX8_stand_72 rfl (lv_at hl 1 rfl) ?_
          refine va_get (D := (dC, dI)) (ci := 8) (v := .ref (ad 3)) (C := RX8) (T := TX8) (N := 78) hx hb hts ki8 hown hK hP 0 rfl rfl 8 (by decide) kf17 (fun _ h9 => h9) rfl dX8_stand_73 ?_
          refine lv_iload_n hx hb dX8_stand_76 rfl (lv_at hl 0 rfl) ?_
          refine va_iald (f := (x_aM 8)) hx hb hK hP 3 0 rfl rfl g_79 dX8_stand_77 ?_
          refine lv_iconst (v := 3) hx hb dX8_stand_78 (by decide) ?_
          refine lv_icmp_eq (tgt := 87) hx hb dX8_stand_79 (by decide) (fun cz => ?_) (fun cz => ?_)
          · have h := g_t h cz
            exact B87 ((((x_aM 53)) (((x_iM 54) - (1 : Int32))).toNatClampNeg)) ((us x_iM [(39, q69.1), (49, ((x_iM 49) - (1 : Int32))), (54, ((x_iM 54) - (1 : Int32)))])) ((us x_aM [(10, (upd ((x_aM 10)) ((((x_aM 53)) (((x_iM 54) - (1 : Int32))).toNatClampNeg)).toNatClampNeg ((x_iM 55)))), (13, q69.2)])) (f_M_stand_5 N iM aM n) ih H locs ls h hP hD hS (lv_sub hl [1, 0] rfl)
          · have h := g_f h cz
            refine lv_aload_n hx hb dX8_stand_82 rfl (lv_at hl 1 rfl) ?_
            refine lv_iload_n hx hb dX8_stand_83 rfl (lv_at hl 0 rfl) ?_
            obtain ⟨q84, e84, h⟩ := g_b h
            refine callVvs (cc := cX8_stand) (w1 := zzM ad cy (us x_iM [(39, q69.1), (45, q84.1), (46, q84.2.1), (47, q84.2.2.1), (49, ((x_iM 49) - (1 : Int32))), (54, ((x_iM 54) - (1 : Int32)))]) (us x_aM [(10, (upd ((x_aM 10)) ((((x_aM 53)) (((x_iM 54) - (1 : Int32))).toNatClampNeg)).toNatClampNeg ((x_iM 55)))), (11, q84.2.2.2.1), (13, q69.2), (32, q84.2.2.2.2.1), (33, q84.2.2.2.2.2.1), (34, q84.2.2.2.2.2.2.1), (35, q84.2.2.2.2.2.2.2.1), (50, q84.2.2.2.2.2.2.2.2.1), (51, q84.2.2.2.2.2.2.2.2.2)])) (As := [.int ((((x_aM 53)) (((x_iM 54) - (1 : Int32))).toNatClampNeg))]) (rest := []) ⟨hx, hb, hml, hown, hts⟩ (c_M_findAtom l dC dI cy ad H.size N ((((x_aM 53)) (((x_iM 54) - (1 : Int32))).toNatClampNeg)) ((us x_iM [(39, q69.1), (49, ((x_iM 49) - (1 : Int32))), (54, ((x_iM 54) - (1 : Int32)))])) ((us x_aM [(10, (upd ((x_aM 10)) ((((x_aM 53)) (((x_iM 54) - (1 : Int32))).toNatClampNeg)).toNatClampNeg ((x_iM 55)))), (13, q69.2)])) q84 e84) (cwV 1 hts (goodV m_ml_X8_260 m_im_X8_findAtom m_se_X8_findAtom m_in_X8 m_cd_X8_findAtom) rfl rfl rfl (by decide +kernel) ⟨Nat.le_of_ble_eq_true rfl, Nat.le_of_ble_eq_true rfl⟩) hN hK hP hD hS hA rfl 0 rfl rfl rfl hl.1 rfl (Nat.le_of_ble_eq_true rfl) dX8_stand_84 ⟨Nat.zero_le _, Nat.zero_le _⟩ (fun H locs hP hD hS => ?_)
            exact B87 ((((x_aM 53)) (((x_iM 54) - (1 : Int32))).toNatClampNeg)) ((us x_iM [(39, q69.1), (45, q84.1), (46, q84.2.1), (47, q84.2.2.1), (49, ((x_iM 49) - (1 : Int32))), (54, ((x_iM 54) - (1 : Int32)))])) ((us x_aM [(10, (upd ((x_aM 10)) ((((x_aM 53)) (((x_iM 54) - (1 : Int32))).toNatClampNeg)).toNatClampNeg ((x_iM 55)))), (11, q84.2.2.2.1), (13, q69.2), (32, q84.2.2.2.2.1), (33, q84.2.2.2.2.2.1), (34, q84.2.2.2.2.2.2.1), (35, q84.2.2.2.2.2.2.2.1), (50, q84.2.2.2.2.2.2.2.2.1), (51, q84.2.2.2.2.2.2.2.2.2)])) (f_M_stand_5 N iM aM n) ih H locs ls h hP hD hS (lv_sub hl [1, 0] rfl)
  intro H locs hP hD hS
  unfold f_M_stand at h
  refine lv_aload_n hx hb dX8_stand_0 rfl (lv_at hl 0 rfl) ?_
  refine lv_iload_n hx hb dX8_stand_1 rfl (lv_at hl 1 rfl) ?_
  refine va_put (D := (dC, dI)) (ci := 8) (v := .int a1) (ty := .int) (C := RX8) (T := TX8) (N := 78) hx hb hts ki8 tyX8 tyX8_ok nmX8 hown hK hP hD hS 0 rfl rfl 55 (by decide) kf251 (fun _ h9 => h9) rfl (by decide +kernel) rfl rfl (Nat.le_of_ble_eq_true rfl) dX8_stand_2 (fun H locs hP hD hS => ?_)
  have hP : va_P (dC, dI) vwCl (zzM ad cy (us iM [(55, a1)]) aM) H := Eq.mp (congrArg (fun w => va_P (dC, dI) vwCl w H) (sfM_iM55 ad cy iM aM a1)) hP
  have hD : va_D A (zzM ad cy (us iM [(55, a1)]) aM) := Eq.mp (congrArg (fun w => va_D A w) (sfM_iM55 ad cy iM aM a1)) hD
  exact B5 N ((us iM [(55, a1)])) aM H locs ls h hP hD hS (lv_sub hl [0] rfl)
