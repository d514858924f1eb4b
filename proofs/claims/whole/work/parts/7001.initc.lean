set_option maxHeartbeats 16000000 in
set_option maxRecDepth 100000 in
theorem c_C_init (l : Launch) (dC : Nat → ClassId) (dI : Nat → Nat → Nat) (cy : Nat → ClassId) (h0 : Nat) (sz : Nat) : Met l yX1_init wsX1_init ({ frames := 1, cells := 8, slots := 836, locals := 12 } : Room) (cP (dC, dI) cy [.ref h0] [(h0, .inr (1, [.null, .null, .null, .null, .int 0, .null, .null, .null, .null, .int 0]))] sz) (va_Qv (fun (_ : Nat → Nat) => True) (fun (u : Nat → Nat) t => va_P (dC, dI) vwCl [(h0, .inr (1, [.ref (u 0), .ref (u 1), .ref (u 2), .ref (u 3), .int 0, .ref (u 4), .ref (u 5), .ref (u 6), .ref (u 7), .int 0])), ((u 0), .inl (cy 0, 200, .inl (fun _ => 0))), ((u 1), .inl (cy 0, 200, .inl (fun _ => 0))), ((u 2), .inl (cy 0, 200, .inl (fun _ => 0))), ((u 3), .inl (cy 0, 200, .inl (fun _ => 0))), ((u 4), .inl (cy 0, 9, .inl (fun _ => 0))), ((u 5), .inl (cy 0, 9, .inl (fun _ => 0))), ((u 6), .inl (cy 0, 9, .inl (fun _ => 0))), ((u 7), .inl (cy 0, 9, .inl (fun _ => 0)))] t.heap ∧ va_K (dC, dI) vwCl (tyW cy) t ∧ va_D (va_A [(h0, .inr (1, [.null, .null, .null, .null, .int 0, .null, .null, .null, .null, .int 0]))] sz) [(h0, .inr (1, [.ref (u 0), .ref (u 1), .ref (u 2), .ref (u 3), .int 0, .ref (u 4), .ref (u 5), .ref (u 6), .ref (u 7), .int 0])), ((u 0), .inl (cy 0, 200, .inl (fun _ => 0))), ((u 1), .inl (cy 0, 200, .inl (fun _ => 0))), ((u 2), .inl (cy 0, 200, .inl (fun _ => 0))), ((u 3), .inl (cy 0, 200, .inl (fun _ => 0))), ((u 4), .inl (cy 0, 9, .inl (fun _ => 0))), ((u 5), .inl (cy 0, 9, .inl (fun _ => 0))), ((u 6), .inl (cy 0, 9, .inl (fun _ => 0))), ((u 7), .inl (cy 0, 9, .inl (fun _ => 0)))]) (va_A [(h0, .inr (1, [.null, .null, .null, .null, .int 0, .null, .null, .null, .null, .int 0]))] sz)) 8 836 (va_A [(h0, .inr (1, [.null, .null, .null, .null, .int 0, .null, .null, .null, .null, .int 0]))] sz) := by
  refine Met.ofW (cc := cX1_init) (maxL := 1) (ret := none) (by decide) rfl ?_
  intro p e s m args below meth c s₁ B hml hv
  obtain ⟨hav, hsz, hP, hK, hD0, hN⟩ := hv
  have hx := B.exec
  have hb := B.bytes
  have hr := B.returns
  have hts := atoms_spec (ws := wsX1_init) B.pre
  have hown : s.vm.findClass RX1 = some m.cls := findClass_of_methodNamed B.named
  have hlocks := B.notSynchronized
  have hin0 : meth.name = "<init>" := (name_of_methodNamed B.named B.method).1
  subst hsz
  have hD := hD0.self (sz := s.heap.size)
  generalize hAe : va_A [(h0, .inr (1, [.null, .null, .null, .null, .int 0, .null, .null, .null, .null, .int 0]))] s.heap.size = A at hD ⊢
  have hA : ∀ q : Nat, s.heap.size ≤ q → A q := fun q h => by rw [← hAe]; exact Or.inr h
  have hS : va_S A s.heap s.heap [] := va_S.rf
  have hl := lv_entry ([.ref h0] : List Value) (n := 1) (Nat.le_of_ble_eq_true rfl)
  have hfr := lg_entry_eq m ([.ref h0] : List Value) 1
  rw [← hav] at hfr
  rw [hfr]
  clear hfr hav
  generalize (lg_sl ([.ref h0] : List Value) ++ List.replicate (1 - (lg_sl ([.ref h0] : List Value)).length) Slot.unset).toArray = ls at hl ⊢
  have hl : lv_has ls 1 [(0, .ref h0)] := hl
  have kf9 := hts _ (List.mem_cons_of_mem _ m_fl_X1_9)
  have ki1 := (fun w h => List.mem_cons_of_mem _ (i_X1 w h) : ∀ w ∈ u_ws RX1 TX1 10, w ∈ wsX1_init)
  have kf15 := hts _ (List.mem_cons_of_mem _ m_fl_X1_15)
  have kf18 := hts _ (List.mem_cons_of_mem _ m_fl_X1_18)
  have kf21 := hts _ (List.mem_cons_of_mem _ m_fl_X1_21)
  have kf24 := hts _ (List.mem_cons_of_mem _ m_fl_X1_24)
  have kf27 := hts _ (List.mem_cons_of_mem _ m_fl_X1_27)
  have kf30 := hts _ (List.mem_cons_of_mem _ m_fl_X1_30)
  have kf33 := hts _ (List.mem_cons_of_mem _ m_fl_X1_33)
  refine (?_ : ∀ (H : Heap) (locs : List Loc), va_P (dC, dI) vwCl [(h0, .inr (1, [.null, .null, .null, .null, .int 0, .null, .null, .null, .null, .int 0]))] H → va_D A [(h0, .inr (1, [.null, .null, .null, .null, .int 0, .null, .null, .null, .null, .int 0]))] → va_S A s.heap H locs → W p l e ({ frames := 1, cells := 8, slots := 836, locals := 12 } : Room) s m args below meth c H locs 0 0 (MQ below (va_Qv _ _ A) args s 8 836 A) (F0 m 0 ls [])) s.heap [] hP hD hS
  clear hP hD hS
  intro H locs hP hD hS
  refine lv_aload_n hx hb dX1_init_0 rfl (lv_at hl 0 rfl) ?_
  refine W.objInit hx hb hown (hts _ (List.mem_cons_of_mem _ m_ml_X1_3)) (hts _ (List.mem_cons_of_mem _ m_im_java_lang_Object__init)) (hts _ (List.mem_cons_of_mem _ m_cd_java_lang_Object__init)) rfl (by rw [hml]; exact hl.1) rfl dX1_init_1 (Nat.le_of_ble_eq_true rfl) (Nat.le_of_ble_eq_true rfl) ?_
  refine W.eq (g2 := F0 m 4 ls []) rfl ?_
  refine lv_aload_n hx hb dX1_init_4 rfl (lv_at hl 0 rfl) ?_
  refine lv_sipush (v := 200) hx hb dX1_init_5 (by decide) ?_
  refine va_newa (atype := .int) (ty := .int) (a0 := (200, .inl (fun _ => 0))) hx hb (hts _ (List.mem_cons_of_mem _ m_ac_int)) rfl hK hP hD hS hA (fun _ => rfl) (by decide) rfl (Nat.le_of_ble_eq_true rfl) (Nat.le_of_ble_eq_true rfl) (Nat.le_of_ble_eq_true rfl) dX1_init_8 (fun q0 cA H hK2 hP hD hS => ?_)
  have hcy : cA = cy 0 := cy_same (fun _ => by simp) hK2 (i := 6) (j := 0) rfl rfl
  rw [hcy] at hP hD
  clear hcy hK2
  have hP : va_P (dC, dI) vwCl [(h0, .inr (1, [.null, .null, .null, .null, .int 0, .null, .null, .null, .null, .int 0])), (q0, .inl (cy 0, 200, .inl (fun _ => 0)))] H := hP
  have hD : va_D A [(h0, .inr (1, [.null, .null, .null, .null, .int 0, .null, .null, .null, .null, .int 0])), (q0, .inl (cy 0, 200, .inl (fun _ => 0)))] := hD
  refine va_putF (D := (dC, dI)) (ci := 1) (v := .ref q0) (ty := (.array .int)) (C := RX1) (T := TX1) (N := 10) hx hb hts ki1 tyX1 tyX1_ok nmX1 hown hK hP hD hS 0 rfl rfl 0 (by decide) kf9 (fun _ h9 => h9) rfl hin0 rfl (by decide +kernel) rfl rfl (Nat.le_of_ble_eq_true rfl) dX1_init_10 (fun H locs hP hD hS => ?_)
  have hP : va_P (dC, dI) vwCl [(h0, .inr (1, [.ref q0, .null, .null, .null, .int 0, .null, .null, .null, .null, .int 0])), (q0, .inl (cy 0, 200, .inl (fun _ => 0)))] H := hP
  have hD : va_D A [(h0, .inr (1, [.ref q0, .null, .null, .null, .int 0, .null, .null, .null, .null, .int 0])), (q0, .inl (cy 0, 200, .inl (fun _ => 0)))] := hD
  refine lv_aload_n hx hb dX1_init_13 rfl (lv_at hl 0 rfl) ?_
  refine lv_sipush (v := 200) hx hb dX1_init_14 (by decide) ?_
  refine va_newa (atype := .int) (ty := .int) (a0 := (200, .inl (fun _ => 0))) hx hb (hts _ (List.mem_cons_of_mem _ m_ac_int)) rfl hK hP hD hS hA (fun _ => rfl) (by decide) rfl (Nat.le_of_ble_eq_true rfl) (Nat.le_of_ble_eq_true rfl) (Nat.le_of_ble_eq_true rfl) dX1_init_17 (fun q1 cA H hK2 hP hD hS => ?_)
  have hcy : cA = cy 0 := cy_same (fun _ => by simp) hK2 (i := 6) (j := 0) rfl rfl
  rw [hcy] at hP hD
  clear hcy hK2
  have hP : va_P (dC, dI) vwCl [(h0, .inr (1, [.ref q0, .null, .null, .null, .int 0, .null, .null, .null, .null, .int 0])), (q0, .inl (cy 0, 200, .inl (fun _ => 0))), (q1, .inl (cy 0, 200, .inl (fun _ => 0)))] H := hP
  have hD : va_D A [(h0, .inr (1, [.ref q0, .null, .null, .null, .int 0, .null, .null, .null, .null, .int 0])), (q0, .inl (cy 0, 200, .inl (fun _ => 0))), (q1, .inl (cy 0, 200, .inl (fun _ => 0)))] := hD
  refine va_putF (D := (dC, dI)) (ci := 1) (v := .ref q1) (ty := (.array .int)) (C := RX1) (T := TX1) (N := 10) hx hb hts ki1 tyX1 tyX1_ok nmX1 hown hK hP hD hS 0 rfl rfl 1 (by decide) kf15 (fun _ h9 => h9) rfl hin0 rfl (by decide +kernel) rfl rfl (Nat.le_of_ble_eq_true rfl) dX1_init_19 (fun H locs hP hD hS => ?_)
  have hP : va_P (dC, dI) vwCl [(h0, .inr (1, [.ref q0, .ref q1, .null, .null, .int 0, .null, .null, .null, .null, .int 0])), (q0, .inl (cy 0, 200, .inl (fun _ => 0))), (q1, .inl (cy 0, 200, .inl (fun _ => 0)))] H := hP
  have hD : va_D A [(h0, .inr (1, [.ref q0, .ref q1, .null, .null, .int 0, .null, .null, .null, .null, .int 0])), (q0, .inl (cy 0, 200, .inl (fun _ => 0))), (q1, .inl (cy 0, 200, .inl (fun _ => 0)))] := hD
  refine lv_aload_n hx hb dX1_init_22 rfl (lv_at hl 0 rfl) ?_
  refine lv_sipush (v := 200) hx hb dX1_init_23 (by decide) ?_
  refine va_newa (atype := .int) (ty := .int) (a0 := (200, .inl (fun _ => 0))) hx hb (hts _ (List.mem_cons_of_mem _ m_ac_int)) rfl hK hP hD hS hA (fun _ => rfl) (by decide) rfl (Nat.le_of_ble_eq_true rfl) (Nat.le_of_ble_eq_true rfl) (Nat.le_of_ble_eq_true rfl) dX1_init_26 (fun q2 cA H hK2 hP hD hS => ?_)
  have hcy : cA = cy 0 := cy_same (fun _ => by simp) hK2 (i := 6) (j := 0) rfl rfl
  rw [hcy] at hP hD
  clear hcy hK2
  have hP : va_P (dC, dI) vwCl [(h0, .inr (1, [.ref q0, .ref q1, .null, .null, .int 0, .null, .null, .null, .null, .int 0])), (q0, .inl (cy 0, 200, .inl (fun _ => 0))), (q1, .inl (cy 0, 200, .inl (fun _ => 0))), (q2, .inl (cy 0, 200, .inl (fun _ => 0)))] H := hP
  have hD : va_D A [(h0, .inr (1, [.ref q0, .ref q1, .null, .null, .int 0, .null, .null, .null, .null, .int 0])), (q0, .inl (cy 0, 200, .inl (fun _ => 0))), (q1, .inl (cy 0, 200, .inl (fun _ => 0))), (q2, .inl (cy 0, 200, .inl (fun _ => 0)))] := hD
  refine va_putF (D := (dC, dI)) (ci := 1) (v := .ref q2) (ty := (.array .int)) (C := RX1) (T := TX1) (N := 10) hx hb hts ki1 tyX1 tyX1_ok nmX1 hown hK hP hD hS 0 rfl rfl 2 (by decide) kf18 (fun _ h9 => h9) rfl hin0 rfl (by decide +kernel) rfl rfl (Nat.le_of_ble_eq_true rfl) dX1_init_28 (fun H locs hP hD hS => ?_)
  have hP : va_P (dC, dI) vwCl [(h0, .inr (1, [.ref q0, .ref q1, .ref q2, .null, .int 0, .null, .null, .null, .null, .int 0])), (q0, .inl (cy 0, 200, .inl (fun _ => 0))), (q1, .inl (cy 0, 200, .inl (fun _ => 0))), (q2, .inl (cy 0, 200, .inl (fun _ => 0)))] H := hP
  have hD : va_D A [(h0, .inr (1, [.ref q0, .ref q1, .ref q2, .null, .int 0, .null, .null, .null, .null, .int 0])), (q0, .inl (cy 0, 200, .inl (fun _ => 0))), (q1, .inl (cy 0, 200, .inl (fun _ => 0))), (q2, .inl (cy 0, 200, .inl (fun _ => 0)))] := hD
  refine lv_aload_n hx hb dX1_init_31 rfl (lv_at hl 0 rfl) ?_
  refine lv_sipush (v := 200) hx hb dX1_init_32 (by decide) ?_
  refine va_newa (atype := .int) (ty := .int) (a0 := (200, .inl (fun _ => 0))) hx hb (hts _ (List.mem_cons_of_mem _ m_ac_int)) rfl hK hP hD hS hA (fun _ => rfl) (by decide) rfl (Nat.le_of_ble_eq_true rfl) (Nat.le_of_ble_eq_true rfl) (Nat.le_of_ble_eq_true rfl) dX1_init_35 (fun q3 cA H hK2 hP hD hS => ?_)
  have hcy : cA = cy 0 := cy_same (fun _ => by simp) hK2 (i := 6) (j := 0) rfl rfl
  rw [hcy] at hP hD
  clear hcy hK2
  have hP : va_P (dC, dI) vwCl [(h0, .inr (1, [.ref q0, .ref q1, .ref q2, .null, .int 0, .null, .null, .null, .null, .int 0])), (q0, .inl (cy 0, 200, .inl (fun _ => 0))), (q1, .inl (cy 0, 200, .inl (fun _ => 0))), (q2, .inl (cy 0, 200, .inl (fun _ => 0))), (q3, .inl (cy 0, 200, .inl (fun _ => 0)))] H := hP
  have hD : va_D A [(h0, .inr (1, [.ref q0, .ref q1, .ref q2, .null, .int 0, .null, .null, .null, .null, .int 0])), (q0, .inl (cy 0, 200, .inl (fun _ => 0))), (q1, .inl (cy 0, 200, .inl (fun _ => 0))), (q2, .inl (cy 0, 200, .inl (fun _ => 0))), (q3, .inl (cy 0, 200, .inl (fun _ => 0)))] := hD
  refine va_putF (D := (dC, dI)) (ci := 1) (v := .ref q3) (ty := (.array .int)) (C := RX1) (T := TX1) (N := 10) hx hb hts ki1 tyX1 tyX1_ok nmX1 hown hK hP hD hS 0 rfl rfl 3 (by decide) kf21 (fun _ h9 => h9) rfl hin0 rfl (by decide +kernel) rfl rfl (Nat.le_of_ble_eq_true rfl) dX1_init_37 (fun H locs hP hD hS => ?_)
  have hP : va_P (dC, dI) vwCl [(h0, .inr (1, [.ref q0, .ref q1, .ref q2, .ref q3, .int 0, .null, .null, .null, .null, .int 0])), (q0, .inl (cy 0, 200, .inl (fun _ => 0))), (q1, .inl (cy 0, 200, .inl (fun _ => 0))), (q2, .inl (cy 0, 200, .inl (fun _ => 0))), (q3, .inl (cy 0, 200, .inl (fun _ => 0)))] H := hP
  have hD : va_D A [(h0, .inr (1, [.ref q0, .ref q1, .ref q2, .ref q3, .int 0, .null, .null, .null, .null, .int 0])), (q0, .inl (cy 0, 200, .inl (fun _ => 0))), (q1, .inl (cy 0, 200, .inl (fun _ => 0))), (q2, .inl (cy 0, 200, .inl (fun _ => 0))), (q3, .inl (cy 0, 200, .inl (fun _ => 0)))] := hD
  refine lv_aload_n hx hb dX1_init_40 rfl (lv_at hl 0 rfl) ?_
  refine lv_bipush (v := 9) hx hb dX1_init_41 (by decide) ?_
  refine va_newa (atype := .int) (ty := .int) (a0 := (9, .inl (fun _ => 0))) hx hb (hts _ (List.mem_cons_of_mem _ m_ac_int)) rfl hK hP hD hS hA (fun _ => rfl) (by decide) rfl (Nat.le_of_ble_eq_true rfl) (Nat.le_of_ble_eq_true rfl) (Nat.le_of_ble_eq_true rfl) dX1_init_43 (fun q4 cA H hK2 hP hD hS => ?_)
  have hcy : cA = cy 0 := cy_same (fun _ => by simp) hK2 (i := 6) (j := 0) rfl rfl
  rw [hcy] at hP hD
  clear hcy hK2
  have hP : va_P (dC, dI) vwCl [(h0, .inr (1, [.ref q0, .ref q1, .ref q2, .ref q3, .int 0, .null, .null, .null, .null, .int 0])), (q0, .inl (cy 0, 200, .inl (fun _ => 0))), (q1, .inl (cy 0, 200, .inl (fun _ => 0))), (q2, .inl (cy 0, 200, .inl (fun _ => 0))), (q3, .inl (cy 0, 200, .inl (fun _ => 0))), (q4, .inl (cy 0, 9, .inl (fun _ => 0)))] H := hP
  have hD : va_D A [(h0, .inr (1, [.ref q0, .ref q1, .ref q2, .ref q3, .int 0, .null, .null, .null, .null, .int 0])), (q0, .inl (cy 0, 200, .inl (fun _ => 0))), (q1, .inl (cy 0, 200, .inl (fun _ => 0))), (q2, .inl (cy 0, 200, .inl (fun _ => 0))), (q3, .inl (cy 0, 200, .inl (fun _ => 0))), (q4, .inl (cy 0, 9, .inl (fun _ => 0)))] := hD
  refine va_putF (D := (dC, dI)) (ci := 1) (v := .ref q4) (ty := (.array .int)) (C := RX1) (T := TX1) (N := 10) hx hb hts ki1 tyX1 tyX1_ok nmX1 hown hK hP hD hS 0 rfl rfl 5 (by decide) kf24 (fun _ h9 => h9) rfl hin0 rfl (by decide +kernel) rfl rfl (Nat.le_of_ble_eq_true rfl) dX1_init_45 (fun H locs hP hD hS => ?_)
  have hP : va_P (dC, dI) vwCl [(h0, .inr (1, [.ref q0, .ref q1, .ref q2, .ref q3, .int 0, .ref q4, .null, .null, .null, .int 0])), (q0, .inl (cy 0, 200, .inl (fun _ => 0))), (q1, .inl (cy 0, 200, .inl (fun _ => 0))), (q2, .inl (cy 0, 200, .inl (fun _ => 0))), (q3, .inl (cy 0, 200, .inl (fun _ => 0))), (q4, .inl (cy 0, 9, .inl (fun _ => 0)))] H := hP
  have hD : va_D A [(h0, .inr (1, [.ref q0, .ref q1, .ref q2, .ref q3, .int 0, .ref q4, .null, .null, .null, .int 0])), (q0, .inl (cy 0, 200, .inl (fun _ => 0))), (q1, .inl (cy 0, 200, .inl (fun _ => 0))), (q2, .inl (cy 0, 200, .inl (fun _ => 0))), (q3, .inl (cy 0, 200, .inl (fun _ => 0))), (q4, .inl (cy 0, 9, .inl (fun _ => 0)))] := hD
  refine lv_aload_n hx hb dX1_init_48 rfl (lv_at hl 0 rfl) ?_
  refine lv_bipush (v := 9) hx hb dX1_init_49 (by decide) ?_
  refine va_newa (atype := .int) (ty := .int) (a0 := (9, .inl (fun _ => 0))) hx hb (hts _ (List.mem_cons_of_mem _ m_ac_int)) rfl hK hP hD hS hA (fun _ => rfl) (by decide) rfl (Nat.le_of_ble_eq_true rfl) (Nat.le_of_ble_eq_true rfl) (Nat.le_of_ble_eq_true rfl) dX1_init_51 (fun q5 cA H hK2 hP hD hS => ?_)
  have hcy : cA = cy 0 := cy_same (fun _ => by simp) hK2 (i := 6) (j := 0) rfl rfl
  rw [hcy] at hP hD
  clear hcy hK2
  have hP : va_P (dC, dI) vwCl [(h0, .inr (1, [.ref q0, .ref q1, .ref q2, .ref q3, .int 0, .ref q4, .null, .null, .null, .int 0])), (q0, .inl (cy 0, 200, .inl (fun _ => 0))), (q1, .inl (cy 0, 200, .inl (fun _ => 0))), (q2, .inl (cy 0, 200, .inl (fun _ => 0))), (q3, .inl (cy 0, 200, .inl (fun _ => 0))), (q4, .inl (cy 0, 9, .inl (fun _ => 0))), (q5, .inl (cy 0, 9, .inl (fun _ => 0)))] H := hP
  have hD : va_D A [(h0, .inr (1, [.ref q0, .ref q1, .ref q2, .ref q3, .int 0, .ref q4, .null, .null, .null, .int 0])), (q0, .inl (cy 0, 200, .inl (fun _ => 0))), (q1, .inl (cy 0, 200, .inl (fun _ => 0))), (q2, .inl (cy 0, 200, .inl (fun _ => 0))), (q3, .inl (cy 0, 200, .inl (fun _ => 0))), (q4, .inl (cy 0, 9, .inl (fun _ => 0))), (q5, .inl (cy 0, 9, .inl (fun _ => 0)))] := hD
  refine va_putF (D := (dC, dI)) (ci := 1) (v := .ref q5) (ty := (.array .int)) (C := RX1) (T := TX1) (N := 10) hx hb hts ki1 tyX1 tyX1_ok nmX1 hown hK hP hD hS 0 rfl rfl 6 (by decide) kf27 (fun _ h9 => h9) rfl hin0 rfl (by decide +kernel) rfl rfl (Nat.le_of_ble_eq_true rfl) dX1_init_53 (fun H locs hP hD hS => ?_)
  have hP : va_P (dC, dI) vwCl [(h0, .inr (1, [.ref q0, .ref q1, .ref q2, .ref q3, .int 0, .ref q4, .ref q5, .null, .null, .int 0])), (q0, .inl (cy 0, 200, .inl (fun _ => 0))), (q1, .inl (cy 0, 200, .inl (fun _ => 0))), (q2, .inl (cy 0, 200, .inl (fun _ => 0))), (q3, .inl (cy 0, 200, .inl (fun _ => 0))), (q4, .inl (cy 0, 9, .inl (fun _ => 0))), (q5, .inl (cy 0, 9, .inl (fun _ => 0)))] H := hP
  have hD : va_D A [(h0, .inr (1, [.ref q0, .ref q1, .ref q2, .ref q3, .int 0, .ref q4, .ref q5, .null, .null, .int 0])), (q0, .inl (cy 0, 200, .inl (fun _ => 0))), (q1, .inl (cy 0, 200, .inl (fun _ => 0))), (q2, .inl (cy 0, 200, .inl (fun _ => 0))), (q3, .inl (cy 0, 200, .inl (fun _ => 0))), (q4, .inl (cy 0, 9, .inl (fun _ => 0))), (q5, .inl (cy 0, 9, .inl (fun _ => 0)))] := hD
  refine lv_aload_n hx hb dX1_init_56 rfl (lv_at hl 0 rfl) ?_
  refine lv_bipush (v := 9) hx hb dX1_init_57 (by decide) ?_
  refine va_newa (atype := .int) (ty := .int) (a0 := (9, .inl (fun _ => 0))) hx hb (hts _ (List.mem_cons_of_mem _ m_ac_int)) rfl hK hP hD hS hA (fun _ => rfl) (by decide) rfl (Nat.le_of_ble_eq_true rfl) (Nat.le_of_ble_eq_true rfl) (Nat.le_of_ble_eq_true rfl) dX1_init_59 (fun q6 cA H hK2 hP hD hS => ?_)
  have hcy : cA = cy 0 := cy_same (fun _ => by simp) hK2 (i := 6) (j := 0) rfl rfl
  rw [hcy] at hP hD
  clear hcy hK2
  have hP : va_P (dC, dI) vwCl [(h0, .inr (1, [.ref q0, .ref q1, .ref q2, .ref q3, .int 0, .ref q4, .ref q5, .null, .null, .int 0])), (q0, .inl (cy 0, 200, .inl (fun _ => 0))), (q1, .inl (cy 0, 200, .inl (fun _ => 0))), (q2, .inl (cy 0, 200, .inl (fun _ => 0))), (q3, .inl (cy 0, 200, .inl (fun _ => 0))), (q4, .inl (cy 0, 9, .inl (fun _ => 0))), (q5, .inl (cy 0, 9, .inl (fun _ => 0))), (q6, .inl (cy 0, 9, .inl (fun _ => 0)))] H := hP
  have hD : va_D A [(h0, .inr (1, [.ref q0, .ref q1, .ref q2, .ref q3, .int 0, .ref q4, .ref q5, .null, .null, .int 0])), (q0, .inl (cy 0, 200, .inl (fun _ => 0))), (q1, .inl (cy 0, 200, .inl (fun _ => 0))), (q2, .inl (cy 0, 200, .inl (fun _ => 0))), (q3, .inl (cy 0, 200, .inl (fun _ => 0))), (q4, .inl (cy 0, 9, .inl (fun _ => 0))), (q5, .inl (cy 0, 9, .inl (fun _ => 0))), (q6, .inl (cy 0, 9, .inl (fun _ => 0)))] := hD
  refine va_putF (D := (dC, dI)) (ci := 1) (v := .ref q6) (ty := (.array .int)) (C := RX1) (T := TX1) (N := 10) hx hb hts ki1 tyX1 tyX1_ok nmX1 hown hK hP hD hS 0 rfl rfl 7 (by decide) kf30 (fun _ h9 => h9) rfl hin0 rfl (by decide +kernel) rfl rfl (Nat.le_of_ble_eq_true rfl) dX1_init_61 (fun H locs hP hD hS => ?_)
  have hP : va_P (dC, dI) vwCl [(h0, .inr (1, [.ref q0, .ref q1, .ref q2, .ref q3, .int 0, .ref q4, .ref q5, .ref q6, .null, .int 0])), (q0, .inl (cy 0, 200, .inl (fun _ => 0))), (q1, .inl (cy 0, 200, .inl (fun _ => 0))), (q2, .inl (cy 0, 200, .inl (fun _ => 0))), (q3, .inl (cy 0, 200, .inl (fun _ => 0))), (q4, .inl (cy 0, 9, .inl (fun _ => 0))), (q5, .inl (cy 0, 9, .inl (fun _ => 0))), (q6, .inl (cy 0, 9, .inl (fun _ => 0)))] H := hP
  have hD : va_D A [(h0, .inr (1, [.ref q0, .ref q1, .ref q2, .ref q3, .int 0, .ref q4, .ref q5, .ref q6, .null, .int 0])), (q0, .inl (cy 0, 200, .inl (fun _ => 0))), (q1, .inl (cy 0, 200, .inl (fun _ => 0))), (q2, .inl (cy 0, 200, .inl (fun _ => 0))), (q3, .inl (cy 0, 200, .inl (fun _ => 0))), (q4, .inl (cy 0, 9, .inl (fun _ => 0))), (q5, .inl (cy 0, 9, .inl (fun _ => 0))), (q6, .inl (cy 0, 9, .inl (fun _ => 0)))] := hD
  refine lv_aload_n hx hb dX1_init_64 rfl (lv_at hl 0 rfl) ?_
  refine lv_bipush (v := 9) hx hb dX1_init_65 (by decide) ?_
  refine va_newa (atype := .int) (ty := .int) (a0 := (9, .inl (fun _ => 0))) hx hb (hts _ (List.mem_cons_of_mem _ m_ac_int)) rfl hK hP hD hS hA (fun _ => rfl) (by decide) rfl (Nat.le_of_ble_eq_true rfl) (Nat.le_of_ble_eq_true rfl) (Nat.le_of_ble_eq_true rfl) dX1_init_67 (fun q7 cA H hK2 hP hD hS => ?_)
  have hcy : cA = cy 0 := cy_same (fun _ => by simp) hK2 (i := 6) (j := 0) rfl rfl
  rw [hcy] at hP hD
  clear hcy hK2
  have hP : va_P (dC, dI) vwCl [(h0, .inr (1, [.ref q0, .ref q1, .ref q2, .ref q3, .int 0, .ref q4, .ref q5, .ref q6, .null, .int 0])), (q0, .inl (cy 0, 200, .inl (fun _ => 0))), (q1, .inl (cy 0, 200, .inl (fun _ => 0))), (q2, .inl (cy 0, 200, .inl (fun _ => 0))), (q3, .inl (cy 0, 200, .inl (fun _ => 0))), (q4, .inl (cy 0, 9, .inl (fun _ => 0))), (q5, .inl (cy 0, 9, .inl (fun _ => 0))), (q6, .inl (cy 0, 9, .inl (fun _ => 0))), (q7, .inl (cy 0, 9, .inl (fun _ => 0)))] H := hP
  have hD : va_D A [(h0, .inr (1, [.ref q0, .ref q1, .ref q2, .ref q3, .int 0, .ref q4, .ref q5, .ref q6, .null, .int 0])), (q0, .inl (cy 0, 200, .inl (fun _ => 0))), (q1, .inl (cy 0, 200, .inl (fun _ => 0))), (q2, .inl (cy 0, 200, .inl (fun _ => 0))), (q3, .inl (cy 0, 200, .inl (fun _ => 0))), (q4, .inl (cy 0, 9, .inl (fun _ => 0))), (q5, .inl (cy 0, 9, .inl (fun _ => 0))), (q6, .inl (cy 0, 9, .inl (fun _ => 0))), (q7, .inl (cy 0, 9, .inl (fun _ => 0)))] := hD
  refine va_putF (D := (dC, dI)) (ci := 1) (v := .ref q7) (ty := (.array .int)) (C := RX1) (T := TX1) (N := 10) hx hb hts ki1 tyX1 tyX1_ok nmX1 hown hK hP hD hS 0 rfl rfl 8 (by decide) kf33 (fun _ h9 => h9) rfl hin0 rfl (by decide +kernel) rfl rfl (Nat.le_of_ble_eq_true rfl) dX1_init_69 (fun H locs hP hD hS => ?_)
  have hP : va_P (dC, dI) vwCl [(h0, .inr (1, [.ref q0, .ref q1, .ref q2, .ref q3, .int 0, .ref q4, .ref q5, .ref q6, .ref q7, .int 0])), (q0, .inl (cy 0, 200, .inl (fun _ => 0))), (q1, .inl (cy 0, 200, .inl (fun _ => 0))), (q2, .inl (cy 0, 200, .inl (fun _ => 0))), (q3, .inl (cy 0, 200, .inl (fun _ => 0))), (q4, .inl (cy 0, 9, .inl (fun _ => 0))), (q5, .inl (cy 0, 9, .inl (fun _ => 0))), (q6, .inl (cy 0, 9, .inl (fun _ => 0))), (q7, .inl (cy 0, 9, .inl (fun _ => 0)))] H := hP
  have hD : va_D A [(h0, .inr (1, [.ref q0, .ref q1, .ref q2, .ref q3, .int 0, .ref q4, .ref q5, .ref q6, .ref q7, .int 0])), (q0, .inl (cy 0, 200, .inl (fun _ => 0))), (q1, .inl (cy 0, 200, .inl (fun _ => 0))), (q2, .inl (cy 0, 200, .inl (fun _ => 0))), (q3, .inl (cy 0, 200, .inl (fun _ => 0))), (q4, .inl (cy 0, 9, .inl (fun _ => 0))), (q5, .inl (cy 0, 9, .inl (fun _ => 0))), (q6, .inl (cy 0, 9, .inl (fun _ => 0))), (q7, .inl (cy 0, 9, .inl (fun _ => 0)))] := hD
  refine W.widen (k := 8) (n := 836) (Nat.le_of_ble_eq_true rfl) (Nat.le_of_ble_eq_true rfl) ?_
  exact W.vret hx hb hr (fun t ht hW => ⟨⟨(fun i => ([q0, q1, q2, q3, q4, q5, q6, q7] : List Nat).getD i 0), rfl, trivial, by rw [ht]; exact hP, va_K.moved hW.alike hK, hD⟩, hS.F ht⟩) hS.2.2 dX1_init_72
