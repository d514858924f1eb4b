def f_T_step_66 (N : Nat) (iT1 : Int32) (iT2 : Int32) (iT3 : Int32) (iT4 : Int32) (wT : Int64) (tx : Nat → Int32) (x_iT2 : Int32) (x_iT3 : Int32) (x_wT : Int64) : Option (Int32 × Int32 × Int32 × Int64) := (f_T_takeRow N iT1 x_iT2 x_iT3 iT4 x_wT tx).bind fun q67 => (some (q67.1, x_iT3, q67.2.1, q67.2.2))
def f_T_step (N : Nat) (iT1 : Int32) (iT2 : Int32) (iT3 : Int32) (iT4 : Int32) (wT : Int64) (tx : Nat → Int32) : Option (Int32 × Int32 × Int32 × Int64) := (f_T_skipBlanks N iT1 iT2 tx).bind fun q1 => (if q1 < iT1 then (if q1 < 0 ∨ 2000 ≤ q1.toNatClampNeg then none else ((f_T_isLetter ((tx q1.toNatClampNeg))).bind fun q45 => (if q45 = 0 then ((f_T_isDigit ((tx q1.toNatClampNeg))).bind fun q60 => (if q60 = 0 then ((f_T_takeSign q1 iT4 ((0 : Int64)) tx).bind fun q74 => (some (q74.1, q1, q74.2.1, q74.2.2))) else (f_T_step_66 N iT1 iT2 iT3 iT4 wT tx q1 q1 ((0 : Int64))))) else (f_T_step_66 N iT1 iT2 iT3 iT4 wT tx q1 q1 ((0 : Int64)))))) else (some (q1, q1, (1 : Int32), (0 : Int64))))
set_option maxHeartbeats 8000000 in
set_option maxRecDepth 100000 in
theorem c_T_step (l : Launch) (dC : Nat → ClassId) (dI : Nat → Nat → Nat) (cy : Nat → ClassId) (ad : Nat → Nat) (sz : Nat) (N : Nat) (iT : Nat → Int32) (wT : Int64) (tx : Nat → Int32) (q : Int32 × Int32 × Int32 × Int64) (h : f_T_step N (iT 1) (iT 2) (iT 3) (iT 4) wT tx = some q) : Met l yX5_step wsX5_step ({ frames := 2, cells := 0, slots := 0, locals := 42 } : Room) (cP (dC, dI) cy [.ref (ad 0)] (zzT ad cy iT wT tx) sz) (cQv (dC, dI) cy (zzT ad cy (us iT [(2, q.1), (3, q.2.1), (4, q.2.2.1)]) q.2.2.2 tx) (va_A (zzT ad cy iT wT tx) sz)) 0 0 (va_A (zzT ad cy iT wT tx) sz) := by
  refine Met.ofW (cc := cX5_step) (maxL := 1) (ret := none) (by decide) rfl ?_
  intro p e s m args below meth c s₁ B hml hv
  obtain ⟨hav, hsz, hP, hK, hD0, hN⟩ := hv
  have hx := B.exec
  have hb := B.bytes
  have hr := B.returns
  have hts := atoms_spec (ws := wsX5_step) B.pre
  have hown : s.vm.findClass RX5 = some m.cls := findClass_of_methodNamed B.named
  have hlocks := B.notSynchronized
  subst hsz
  have hD := hD0.self (sz := s.heap.size)
  generalize hAe : va_A (zzT ad cy iT wT tx) s.heap.size = A at hD ⊢
  have hA : ∀ q : Nat, s.heap.size ≤ q → A q := fun q h => by rw [← hAe]; exact Or.inr h
  have hS : va_S A s.heap s.heap [] := va_S.rf
  generalize hWQ : (zzT ad cy (us iT [(2, q.1), (3, q.2.1), (4, q.2.2.1)]) q.2.2.2 tx) = WQ
  generalize hQQ : MQ below (cQv (dC, dI) cy WQ A) args s 0 0 A = QQ
  have hl := lv_entry ([.ref (ad 0)] : List Value) (n := 1) (Nat.le_of_ble_eq_true rfl)
  have hfr := lg_entry_eq m ([.ref (ad 0)] : List Value) 1
  rw [← hav] at hfr
  rw [hfr]
  clear hfr hav
  generalize (lg_sl ([.ref (ad 0)] : List Value) ++ List.replicate (1 - (lg_sl ([.ref (ad 0)] : List Value)).length) Slot.unset).toArray = ls at hl ⊢
  have hl : lv_has ls 1 [(0, .ref (ad 0))] := hl
  have kf25 := hts _ (List.mem_cons_of_mem _ m_fl_X5_25)
  have ki5 := (fun w h => List.mem_cons_of_mem _ (i_X5 w h) : ∀ w ∈ u_ws RX5 TX5 6, w ∈ wsX5_step)
  have kf34 := hts _ (List.mem_cons_of_mem _ m_fl_X5_34)
  have kf37 := hts _ (List.mem_cons_of_mem _ m_fl_X5_37)
  have kf21 := hts _ (List.mem_cons_of_mem _ m_fl_X5_21)
  have kf9 := hts _ (List.mem_cons_of_mem _ m_fl_X5_9)
  have kf41 := hts _ (List.mem_cons_of_mem _ m_fl_X5_41)
  refine (?_ : ∀ (H : Heap) (locs : List Loc), va_P (dC, dI) vwCl (zzT ad cy iT wT tx) H → va_D A (zzT ad cy iT wT tx) → va_S A s.heap H locs → W p l e ({ frames := 2, cells := 0, slots := 0, locals := 42 } : Room) s m args below meth c H locs 0 0 QQ (F0 m 0 ls [])) s.heap [] hP hD hS
  clear hP hD hS
  have B66 : ∀ (x_iT2 : Int32) (x_iT3 : Int32) (x_wT : Int64) (H : Heap) (locs : List Loc) (ls : Array Slot), f_T_step_66 N (iT 1) (iT 2) (iT 3) (iT 4) wT tx x_iT2 x_iT3 x_wT = some q → va_P (dC, dI) vwCl (zzT ad cy (us iT [(2, x_iT2), (3, x_iT3)]) x_wT tx) H → va_D A (zzT ad cy (us iT [(2, x_iT2), (3, x_iT3)]) x_wT tx) → va_S A s.heap H locs → lv_has ls 1 [(0, .ref (ad 0))] → W p l e ({ frames := 2, cells := 0, slots := 0, locals := 42 } : Room) s m args below meth c H locs 0 0 QQ (F0 m 66 ls []) := by
    intro x_iT2 x_iT3 x_wT H locs ls h hP hD hS hl
    unfold f_T_step_66 at h
    refine lv_aload_n hx hb dX5_step_66 rfl (lv_at hl 0 rfl) ?_
    obtain ⟨q67, e67, h⟩ := g_b h
    refine callVvs (cc := cX5_step) (w1 := zzT ad cy (us iT [(2, q67.1), (3, x_iT3), (4, q67.2.1)]) q67.2.2 tx) (As := []) (rest := []) ⟨hx, hb, hml, hown, hts⟩ (c_T_takeRow l dC dI cy ad H.size N ((us iT [(2, x_iT2), (3, x_iT3)])) x_wT tx q67 e67) (cwV 0 hts (goodV m_ml_X5_51 m_im_X5_takeRow m_se_X5_takeRow m_in_X5 m_cd_X5_takeRow) rfl rfl rfl (by decide +kernel) ⟨Nat.le_of_ble_eq_true rfl, Nat.le_of_ble_eq_true rfl⟩) hN hK hP hD hS hA rfl 0 rfl rfl rfl hl.1 rfl (Nat.le_of_ble_eq_true rfl) dX5_step_67 ⟨Nat.zero_le _, Nat.zero_le _⟩ (fun H locs hP hD hS => ?_)
    refine lv_goto (tgt := 77) hx hb dX5_step_70 (by decide) ?_
    have h' := Option.some.inj h
    rw [← hQQ]
    exact W.vret hx hb hr (fun t ht hW => ⟨⟨(), rfl, trivial, by rw [← hWQ, ← h', ht]; exact hP, va_K.moved hW.alike hK⟩, hS.F ht⟩) hS.2.2 dX5_step_77
  intro H locs hP hD hS
  unfold f_T_step at h
  refine lv_aload_n hx hb dX5_step_0 rfl (lv_at hl 0 rfl) ?_
  obtain ⟨q1, e1, h⟩ := g_b h
  refine callVvs (cc := cX5_step) (w1 := zzT ad cy (us iT [(2, q1)]) wT tx) (As := []) (rest := []) ⟨hx, hb, hml, hown, hts⟩ (c_T_skipBlanks l dC dI cy ad H.size N iT wT tx q1 e1) (cwV 0 hts (goodV m_ml_X5_31 m_im_X5_skipBlanks m_se_X5_skipBlanks m_in_X5 m_cd_X5_skipBlanks) rfl rfl rfl (by decide +kernel) ⟨Nat.le_of_ble_eq_true rfl, Nat.le_of_ble_eq_true rfl⟩) hN hK hP hD hS hA rfl 0 rfl rfl rfl hl.1 rfl (Nat.le_of_ble_eq_true rfl) dX5_step_1 ⟨Nat.zero_le _, Nat.zero_le _⟩ (fun H locs hP hD hS => ?_)
  refine lv_aload_n hx hb dX5_step_4 rfl (lv_at hl 0 rfl) ?_
  refine lv_aload_n hx hb dX5_step_5 rfl (lv_at hl 0 rfl) ?_
  refine va_get (D := (dC, dI)) (ci := 5) (v := .int q1) (C := RX5) (T := TX5) (N := 6) hx hb hts ki5 hown hK hP 0 rfl rfl 2 (by decide) kf25 (fun _ h9 => h9) rfl dX5_step_6 ?_
  refine va_put (D := (dC, dI)) (ci := 5) (v := .int q1) (ty := .int) (C := RX5) (T := TX5) (N := 6) hx hb hts ki5 tyX5 tyX5_ok nmX5 hown hK hP hD hS 0 rfl rfl 3 (by decide) kf34 (fun _ h9 => h9) rfl (by decide +kernel) rfl rfl (Nat.le_of_ble_eq_true rfl) dX5_step_9 (fun H locs hP hD hS => ?_)
  have hP : va_P (dC, dI) vwCl (zzT ad cy (us iT [(2, q1), (3, q1)]) wT tx) H := Eq.mp (congrArg (fun w => va_P (dC, dI) vwCl w H) (stT_iT3 ad cy iT wT tx [(2, q1)] q1)) hP
  have hD : va_D A (zzT ad cy (us iT [(2, q1), (3, q1)]) wT tx) := Eq.mp (congrArg (fun w => va_D A w) (stT_iT3 ad cy iT wT tx [(2, q1)] q1)) hD
  refine lv_aload_n hx hb dX5_step_12 rfl (lv_at hl 0 rfl) ?_
  refine lv_lconst (v := 0) hx hb dX5_step_13 (by decide) ?_
  refine va_put (D := (dC, dI)) (ci := 5) (v := .long ((0 : Int64))) (ty := .long) (C := RX5) (T := TX5) (N := 6) hx hb hts ki5 tyX5 tyX5_ok nmX5 hown hK hP hD hS 0 rfl rfl 5 (by decide) kf37 (fun _ h9 => h9) rfl (by decide +kernel) rfl rfl (Nat.le_of_ble_eq_true rfl) dX5_step_14 (fun H locs hP hD hS => ?_)
  have hP : va_P (dC, dI) vwCl (zzT ad cy (us iT [(2, q1), (3, q1)]) (0 : Int64) tx) H := hP
  have hD : va_D A (zzT ad cy (us iT [(2, q1), (3, q1)]) (0 : Int64) tx) := hD
  refine lv_aload_n hx hb dX5_step_17 rfl (lv_at hl 0 rfl) ?_
  refine va_get (D := (dC, dI)) (ci := 5) (v := .int q1) (C := RX5) (T := TX5) (N := 6) hx hb hts ki5 hown hK hP 0 rfl rfl 2 (by decide) kf25 (fun _ h9 => h9) rfl dX5_step_18 ?_
  refine lv_aload_n hx hb dX5_step_21 rfl (lv_at hl 0 rfl) ?_
  refine va_get (D := (dC, dI)) (ci := 5) (v := .int (iT 1)) (C := RX5) (T := TX5) (N := 6) hx hb hts ki5 hown hK hP 0 rfl rfl 1 (by decide) kf21 (fun _ h9 => h9) rfl dX5_step_22 ?_
  refine lv_icmp_lt (tgt := 36) hx hb dX5_step_25 (by decide) (fun cz => ?_) (fun cz => ?_)
  · have h := g_t h cz
    refine lv_aload_n hx hb dX5_step_36 rfl (lv_at hl 0 rfl) ?_
    refine va_get (D := (dC, dI)) (ci := 5) (v := .ref (ad 1)) (C := RX5) (T := TX5) (N := 6) hx hb hts ki5 hown hK hP 0 rfl rfl 0 (by decide) kf9 (fun _ h9 => h9) rfl dX5_step_37 ?_
    refine lv_aload_n hx hb dX5_step_40 rfl (lv_at hl 0 rfl) ?_
    refine va_get (D := (dC, dI)) (ci := 5) (v := .int q1) (C := RX5) (T := TX5) (N := 6) hx hb hts ki5 hown hK hP 0 rfl rfl 2 (by decide) kf25 (fun _ h9 => h9) rfl dX5_step_41 ?_
    obtain ⟨g_5, h⟩ := g_n h
    refine va_bald (f := tx) hx hb hK hP 1 1 rfl rfl g_5 dX5_step_44 ?_
    obtain ⟨q45, e45, h⟩ := g_b h
    refine callSi (cc := cX5_step) (ws' := zzT ad cy (us iT [(2, q1), (3, q1)]) (0 : Int64) tx) (As := [.int ((tx q1.toNatClampNeg))]) (rest := []) ⟨hx, hb, hml, hown, hts⟩ (c_T_isLetter l dC dI cy ad H.size ((tx q1.toNatClampNeg)) q45 e45) (va_cwS 1 hts (goodS m_ml_X5_44 m_st_X5_isLetter m_in_X5 m_cd_X5_isLetter) rfl rfl rfl (by decide +kernel) ⟨Nat.le_of_ble_eq_true rfl, Nat.le_of_ble_eq_true rfl⟩) hN hK hP hD hS hA [] [none, none] rfl rfl rfl rfl rfl rfl rfl hl.1 rfl (Nat.le_of_ble_eq_true rfl) dX5_step_45 ⟨Nat.zero_le _, Nat.zero_le _⟩ (fun H locs hP hD hS => ?_)
    refine lv_if_ne (tgt := 66) hx hb dX5_step_48 (by decide) (fun cz => ?_) (fun cz => ?_)
    · have h := g_f h cz
      exact B66 q1 q1 ((0 : Int64)) H locs ls h hP hD hS (lv_sub hl [0] rfl)
    · have h := g_t h cz
      refine lv_aload_n hx hb dX5_step_51 rfl (lv_at hl 0 rfl) ?_
      refine va_get (D := (dC, dI)) (ci := 5) (v := .ref (ad 1)) (C := RX5) (T := TX5) (N := 6) hx hb hts ki5 hown hK hP 0 rfl rfl 0 (by decide) kf9 (fun _ h9 => h9) rfl dX5_step_52 ?_
      refine lv_aload_n hx hb dX5_step_55 rfl (lv_at hl 0 rfl) ?_
      refine va_get (D := (dC, dI)) (ci := 5) (v := .int q1) (C := RX5) (T := TX5) (N := 6) hx hb hts ki5 hown hK hP 0 rfl rfl 2 (by decide) kf25 (fun _ h9 => h9) rfl dX5_step_56 ?_
      refine va_bald (f := tx) hx hb hK hP 1 1 rfl rfl g_5 dX5_step_59 ?_
      obtain ⟨q60, e60, h⟩ := g_b h
      refine callSi (cc := cX5_step) (ws' := zzT ad cy (us iT [(2, q1), (3, q1)]) (0 : Int64) tx) (As := [.int ((tx q1.toNatClampNeg))]) (rest := []) ⟨hx, hb, hml, hown, hts⟩ (c_T_isDigit l dC dI cy ad H.size ((tx q1.toNatClampNeg)) q60 e60) (va_cwS 1 hts (goodS m_ml_X5_48 m_st_X5_isDigit m_in_X5 m_cd_X5_isDigit) rfl rfl rfl (by decide +kernel) ⟨Nat.le_of_ble_eq_true rfl, Nat.le_of_ble_eq_true rfl⟩) hN hK hP hD hS hA [] [none, none] rfl rfl rfl rfl rfl rfl rfl hl.1 rfl (Nat.le_of_ble_eq_true rfl) dX5_step_60 ⟨Nat.zero_le _, Nat.zero_le _⟩ (fun H locs hP hD hS => ?_)
      refine lv_if_eq (tgt := 73) hx hb dX5_step_63 (by decide) (fun cz => ?_) (fun cz => ?_)
      · have h := g_t h cz
        refine lv_aload_n hx hb dX5_step_73 rfl (lv_at hl 0 rfl) ?_
        obtain ⟨q74, e74, h⟩ := g_b h
        refine callVvs (cc := cX5_step) (w1 := zzT ad cy (us iT [(2, q74.1), (3, q1), (4, q74.2.1)]) q74.2.2 tx) (As := []) (rest := []) ⟨hx, hb, hml, hown, hts⟩ (c_T_takeSign l dC dI cy ad H.size ((us iT [(2, q1), (3, q1)])) ((0 : Int64)) tx q74 e74) (cwV 0 hts (goodV m_ml_X5_54 m_im_X5_takeSign m_se_X5_takeSign m_in_X5 m_cd_X5_takeSign) rfl rfl rfl (by decide +kernel) ⟨Nat.le_of_ble_eq_true rfl, Nat.le_of_ble_eq_true rfl⟩) hN hK hP hD hS hA rfl 0 rfl rfl rfl hl.1 rfl (Nat.le_of_ble_eq_true rfl) dX5_step_74 ⟨Nat.zero_le _, Nat.zero_le _⟩ (fun H locs hP hD hS => ?_)
        have h' := Option.some.inj h
        rw [← hQQ]
        exact W.vret hx hb hr (fun t ht hW => ⟨⟨(), rfl, trivial, by rw [← hWQ, ← h', ht]; exact hP, va_K.moved hW.alike hK⟩, hS.F ht⟩) hS.2.2 dX5_step_77
      · have h := g_f h cz
        exact B66 q1 q1 ((0 : Int64)) H locs ls h hP hD hS (lv_sub hl [0] rfl)
  · have h := g_f h cz
    refine lv_aload_n hx hb dX5_step_28 rfl (lv_at hl 0 rfl) ?_
    refine lv_iconst (v := 1) hx hb dX5_step_29 (by decide) ?_
    refine va_put (D := (dC, dI)) (ci := 5) (v := .int ((1 : Int32))) (ty := .int) (C := RX5) (T := TX5) (N := 6) hx hb hts ki5 tyX5 tyX5_ok nmX5 hown hK hP hD hS 0 rfl rfl 4 (by decide) kf41 (fun _ h9 => h9) rfl (by decide +kernel) rfl rfl (Nat.le_of_ble_eq_true rfl) dX5_step_30 (fun H locs hP hD hS => ?_)
    have hP : va_P (dC, dI) vwCl (zzT ad cy (us iT [(2, q1), (3, q1), (4, (1 : Int32))]) (0 : Int64) tx) H := Eq.mp (congrArg (fun w => va_P (dC, dI) vwCl w H) (stT_iT4 ad cy iT (0 : Int64) tx [(2, q1), (3, q1)] ((1 : Int32)))) hP
    have hD : va_D A (zzT ad cy (us iT [(2, q1), (3, q1), (4, (1 : Int32))]) (0 : Int64) tx) := Eq.mp (congrArg (fun w => va_D A w) (stT_iT4 ad cy iT (0 : Int64) tx [(2, q1), (3, q1)] ((1 : Int32)))) hD
    refine lv_goto (tgt := 77) hx hb dX5_step_33 (by decide) ?_
    have h' := Option.some.inj h
    rw [← hQQ]
    exact W.vret hx hb hr (fun t ht hW => ⟨⟨(), rfl, trivial, by rw [← hWQ, ← h', ht]; exact hP, va_K.moved hW.alike hK⟩, hS.F ht⟩) hS.2.2 dX5_step_77
