def f_T_start (N : Nat) (a1 : Int32) (iT1 : Int32) (iT2 : Int32) (iT3 : Int32) (iT4 : Int32) (wT : Int64) (tx : Nat → Int32) : Option (Int32 × Int32 × Int32 × Int32 × Int64) := (f_T_step N ((if (2000 : Int32) < a1 then (2000 : Int32) else a1)) ((0 : Int32)) iT3 iT4 wT tx).bind fun q19 => (some ((if (2000 : Int32) < a1 then (2000 : Int32) else a1), q19.1, q19.2.1, q19.2.2.1, q19.2.2.2))
set_option maxHeartbeats 8000000 in
set_option maxRecDepth 100000 in
theorem c_T_start (l : Launch) (dC : Nat → ClassId) (dI : Nat → Nat → Nat) (cy : Nat → ClassId) (ad : Nat → Nat) (sz : Nat) (N : Nat) (a1 : Int32) (iT : Nat → Int32) (wT : Int64) (tx : Nat → Int32) (q : Int32 × Int32 × Int32 × Int32 × Int64) (h : f_T_start N a1 (iT 1) (iT 2) (iT 3) (iT 4) wT tx = some q) : Met l yX5_start wsX5_start ({ frames := 3, cells := 0, slots := 0, locals := 62 } : Room) (cP (dC, dI) cy [.ref (ad 0), .int a1] (zzT ad cy iT wT tx) sz) (cQv (dC, dI) cy (zzT ad cy (us iT [(1, q.1), (2, q.2.1), (3, q.2.2.1), (4, q.2.2.2.1)]) q.2.2.2.2 tx) (va_A (zzT ad cy iT wT tx) sz)) 0 0 (va_A (zzT ad cy iT wT tx) sz) := by
  refine Met.ofW (cc := cX5_start) (maxL := 2) (ret := none) (by decide) rfl ?_
  intro p e s m args below meth c s₁ B hml hv
  obtain ⟨hav, hsz, hP, hK, hD0, hN⟩ := hv
  have hx := B.exec
  have hb := B.bytes
  have hr := B.returns
  have hts := atoms_spec (ws := wsX5_start) B.pre
  have hown : s.vm.findClass RX5 = some m.cls := findClass_of_methodNamed B.named
  have hlocks := B.notSynchronized
  subst hsz
  have hD := hD0.self (sz := s.heap.size)
  generalize hAe : va_A (zzT ad cy iT wT tx) s.heap.size = A at hD ⊢
  have hA : ∀ q : Nat, s.heap.size ≤ q → A q := fun q h => by rw [← hAe]; exact Or.inr h
  have hS : va_S A s.heap s.heap [] := va_S.rf
  generalize hWQ : (zzT ad cy (us iT [(1, q.1), (2, q.2.1), (3, q.2.2.1), (4, q.2.2.2.1)]) q.2.2.2.2 tx) = WQ
  generalize hQQ : MQ below (cQv (dC, dI) cy WQ A) args s 0 0 A = QQ
  have hl := lv_entry ([.ref (ad 0), .int a1] : List Value) (n := 2) (Nat.le_of_ble_eq_true rfl)
  have hfr := lg_entry_eq m ([.ref (ad 0), .int a1] : List Value) 2
  rw [← hav] at hfr
  rw [hfr]
  clear hfr hav
  generalize (lg_sl ([.ref (ad 0), .int a1] : List Value) ++ List.replicate (2 - (lg_sl ([.ref (ad 0), .int a1] : List Value)).length) Slot.unset).toArray = ls at hl ⊢
  have hl : lv_has ls 2 [(0, .ref (ad 0)), (1, .int a1)] := hl
  have kf9 := hts _ (List.mem_cons_of_mem _ m_fl_X5_9)
  have ki5 := (fun w h => List.mem_cons_of_mem _ (i_X5 w h) : ∀ w ∈ u_ws RX5 TX5 6, w ∈ wsX5_start)
  have km1 := hts _ (List.mem_cons_of_mem _ m_ml_X5_15)
  have km2 := hts _ (List.mem_cons_of_mem _ m_st_java_lang_Math_min)
  have km3 := hts _ (List.mem_cons_of_mem _ m_in_java_lang_Math)
  have km4 := hts _ (List.mem_cons_of_mem _ m_cd_java_lang_Math_min)
  have kf21 := hts _ (List.mem_cons_of_mem _ m_fl_X5_21)
  have kf25 := hts _ (List.mem_cons_of_mem _ m_fl_X5_25)
  refine (?_ : ∀ (H : Heap) (locs : List Loc), va_P (dC, dI) vwCl (zzT ad cy iT wT tx) H → va_D A (zzT ad cy iT wT tx) → va_S A s.heap H locs → W p l e ({ frames := 3, cells := 0, slots := 0, locals := 62 } : Room) s m args below meth c H locs 0 0 QQ (F0 m 0 ls [])) s.heap [] hP hD hS
  clear hP hD hS
  intro H locs hP hD hS
  unfold f_T_start at h
  refine lv_aload_n hx hb dX5_start_0 rfl (lv_at hl 0 rfl) ?_
  refine lv_iload_n hx hb dX5_start_1 rfl (lv_at hl 1 rfl) ?_
  refine lv_aload_n hx hb dX5_start_2 rfl (lv_at hl 0 rfl) ?_
  refine va_get (D := (dC, dI)) (ci := 5) (v := .ref (ad 1)) (C := RX5) (T := TX5) (N := 6) hx hb hts ki5 hown hK hP 0 rfl rfl 0 (by decide) kf9 (fun _ h9 => h9) rfl dX5_start_3 ?_
  refine va_alen (v := (2000 : Int32)) hx hb hK hP 1 1 rfl rfl rfl dX5_start_6 ?_
  refine va_mmin hx hb (by rw [hml]; exact hl.1.symm) hown km1 km2 km3 km4 (Nat.le_of_ble_eq_true rfl) (Nat.le_of_ble_eq_true rfl) (Nat.zero_le _) (Nat.zero_le _) dX5_start_7 ?_
  refine va_put (D := (dC, dI)) (ci := 5) (v := .int ((if (2000 : Int32) < a1 then (2000 : Int32) else a1))) (ty := .int) (C := RX5) (T := TX5) (N := 6) hx hb hts ki5 tyX5 tyX5_ok nmX5 hown hK hP hD hS 0 rfl rfl 1 (by decide) kf21 (fun _ h9 => h9) rfl (by decide +kernel) rfl rfl (Nat.le_of_ble_eq_true rfl) dX5_start_10 (fun H locs hP hD hS => ?_)
  have hP : va_P (dC, dI) vwCl (zzT ad cy (us iT [(1, (if (2000 : Int32) < a1 then (2000 : Int32) else a1))]) wT tx) H := Eq.mp (congrArg (fun w => va_P (dC, dI) vwCl w H) (sfT_iT1 ad cy iT wT tx ((if (2000 : Int32) < a1 then (2000 : Int32) else a1)))) hP
  have hD : va_D A (zzT ad cy (us iT [(1, (if (2000 : Int32) < a1 then (2000 : Int32) else a1))]) wT tx) := Eq.mp (congrArg (fun w => va_D A w) (sfT_iT1 ad cy iT wT tx ((if (2000 : Int32) < a1 then (2000 : Int32) else a1)))) hD
  refine lv_aload_n hx hb dX5_start_13 rfl (lv_at hl 0 rfl) ?_
  refine lv_iconst (v := 0) hx hb dX5_start_14 (by decide) ?_
  refine va_put (D := (dC, dI)) (ci := 5) (v := .int ((0 : Int32))) (ty := .int) (C := RX5) (T := TX5) (N := 6) hx hb hts ki5 tyX5 tyX5_ok nmX5 hown hK hP hD hS 0 rfl rfl 2 (by decide) kf25 (fun _ h9 => h9) rfl (by decide +kernel) rfl rfl (Nat.le_of_ble_eq_true rfl) dX5_start_15 (fun H locs hP hD hS => ?_)
  have hP : va_P (dC, dI) vwCl (zzT ad cy (us iT [(1, (if (2000 : Int32) < a1 then (2000 : Int32) else a1)), (2, (0 : Int32))]) wT tx) H := Eq.mp (congrArg (fun w => va_P (dC, dI) vwCl w H) (stT_iT2 ad cy iT wT tx [(1, (if (2000 : Int32) < a1 then (2000 : Int32) else a1))] ((0 : Int32)))) hP
  have hD : va_D A (zzT ad cy (us iT [(1, (if (2000 : Int32) < a1 then (2000 : Int32) else a1)), (2, (0 : Int32))]) wT tx) := Eq.mp (congrArg (fun w => va_D A w) (stT_iT2 ad cy iT wT tx [(1, (if (2000 : Int32) < a1 then (2000 : Int32) else a1))] ((0 : Int32)))) hD
  refine lv_aload_n hx hb dX5_start_18 rfl (lv_at hl 0 rfl) ?_
  obtain ⟨q19, e19, h⟩ := g_b h
  refine callVvs (cc := cX5_start) (w1 := zzT ad cy (us iT [(1, (if (2000 : Int32) < a1 then (2000 : Int32) else a1)), (2, q19.1), (3, q19.2.1), (4, q19.2.2.1)]) q19.2.2.2 tx) (As := []) (rest := []) ⟨hx, hb, hml, hown, hts⟩ (c_T_step l dC dI cy ad H.size N ((us iT [(1, (if (2000 : Int32) < a1 then (2000 : Int32) else a1)), (2, (0 : Int32))])) wT tx q19 e19) (cwV 0 hts (goodV m_ml_X5_28 m_im_X5_step m_se_X5_step m_in_X5 m_cd_X5_step) rfl rfl rfl (by decide +kernel) ⟨Nat.le_of_ble_eq_true rfl, Nat.le_of_ble_eq_true rfl⟩) hN hK hP hD hS hA rfl 0 rfl rfl rfl hl.1 rfl (Nat.le_of_ble_eq_true rfl) dX5_start_19 ⟨Nat.zero_le _, Nat.zero_le _⟩ (fun H locs hP hD hS => ?_)
  have h' := Option.some.inj h
  rw [← hQQ]
  exact W.vret hx hb hr (fun t ht hW => ⟨⟨(), rfl, trivial, by rw [← hWQ, ← h', ht]; exact hP, va_K.moved hW.alike hK⟩, hS.F ht⟩) hS.2.2 dX5_start_22
