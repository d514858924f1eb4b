set_option maxHeartbeats 16000000 in
set_option maxRecDepth 100000 in
theorem c_W_init (l : Launch) (dC : Nat → ClassId) (dI : Nat → Nat → Nat) (cy : Nat → ClassId) (h0 : Nat) (sz : Nat) : Met l yX6_init wsX6_init ({ frames := 1, cells := 3, slots := 3328, locals := 12 } : Room) (cP (dC, dI) cy [.ref h0] [(h0, .inr (6, [.null, .int 0, .null, .null, .int 0]))] sz) (va_Qv (fun (_ : Nat → Nat) => True) (fun (u : Nat → Nat) t => va_P (dC, dI) vwCl [(h0, .inr (6, [.ref (u 0), .int 0, .ref (u 1), .ref (u 2), .int 0])), ((u 0), .inl (cy 3, 512, .inl (fun _ => 0))), ((u 1), .inl (cy 3, 512, .inl (fun _ => 0))), ((u 2), .inl (cy 0, 2304, .inl (fun _ => 0)))] t.heap ∧ va_K (dC, dI) vwCl (tyW cy) t ∧ va_D (va_A [(h0, .inr (6, [.null, .int 0, .null, .null, .int 0]))] sz) [(h0, .inr (6, [.ref (u 0), .int 0, .ref (u 1), .ref (u 2), .int 0])), ((u 0), .inl (cy 3, 512, .inl (fun _ => 0))), ((u 1), .inl (cy 3, 512, .inl (fun _ => 0))), ((u 2), .inl (cy 0, 2304, .inl (fun _ => 0)))]) (va_A [(h0, .inr (6, [.null, .int 0, .null, .null, .int 0]))] sz)) 3 3328 (va_A [(h0, .inr (6, [.null, .int 0, .null, .null, .int 0]))] sz) := by
  refine Met.ofW (cc := cX6_init) (maxL := 1) (ret := none) (by decide) rfl ?_
  intro p e s m args below meth c s₁ B hml hv
  obtain ⟨hav, hsz, hP, hK, hD0, hN⟩ := hv
  have hx := B.exec
  have hb := B.bytes
  have hr := B.returns
  have hts := atoms_spec (ws := wsX6_init) B.pre
  have hown : s.vm.findClass RX6 = some m.cls := findClass_of_methodNamed B.named
  have hlocks := B.notSynchronized
  have hin0 : meth.name = "<init>" := (name_of_methodNamed B.named B.method).1
  subst hsz
  have hD := hD0.self (sz := s.heap.size)
  generalize hAe : va_A [(h0, .inr (6, [.null, .int 0, .null, .null, .int 0]))] s.heap.size = A at hD ⊢
  have hA : ∀ q : Nat, s.heap.size ≤ q → A q := fun q h => by rw [← hAe]; exact Or.inr h
  have hS : va_S A s.heap s.heap [] := va_S.rf
  have hl := lv_entry ([.ref h0] : List Value) (n := 1) (Nat.le_of_ble_eq_true rfl)
  have hfr := lg_entry_eq m ([.ref h0] : List Value) 1
  rw [← hav] at hfr
  rw [hfr]
  clear hfr hav
  generalize (lg_sl ([.ref h0] : List Value) ++ List.replicate (1 - (lg_sl ([.ref h0] : List Value)).length) Slot.unset).toArray = ls at hl ⊢
  have hl : lv_has ls 1 [(0, .ref h0)] := hl
  have kf9 := hts _ (List.mem_cons_of_mem _ m_fl_X6_9)
  have ki6 := (fun w h => List.mem_cons_of_mem _ (i_X6 w h) : ∀ w ∈ u_ws RX6 TX6 5, w ∈ wsX6_init)
  have kf15 := hts _ (List.mem_cons_of_mem _ m_fl_X6_15)
  have kf18 := hts _ (List.mem_cons_of_mem _ m_fl_X6_18)
  refine (?_ : ∀ (H : Heap) (locs : List Loc), va_P (dC, dI) vwCl [(h0, .inr (6, [.null, .int 0, .null, .null, .int 0]))] H → va_D A [(h0, .inr (6, [.null, .int 0, .null, .null, .int 0]))] → va_S A s.heap H locs → W p l e ({ frames := 1, cells := 3, slots := 3328, locals := 12 } : Room) s m args below meth c H locs 0 0 (MQ below (va_Qv _ _ A) args s 3 3328 A) (F0 m 0 ls [])) s.heap [] hP hD hS
  clear hP hD hS
  intro H locs hP hD hS
  refine lv_aload_n hx hb dX6_init_0 rfl (lv_at hl 0 rfl) ?_
  refine W.objInit hx hb hown (hts _ (List.mem_cons_of_mem _ m_ml_X6_3)) (hts _ (List.mem_cons_of_mem _ m_im_java_lang_Object__init)) (hts _ (List.mem_cons_of_mem _ m_cd_java_lang_Object__init)) rfl (by rw [hml]; exact hl.1) rfl dX6_init_1 (Nat.le_of_ble_eq_true rfl) (Nat.le_of_ble_eq_true rfl) ?_
  refine W.eq (g2 := F0 m 4 ls []) rfl ?_
  refine lv_aload_n hx hb dX6_init_4 rfl (lv_at hl 0 rfl) ?_
  refine lv_sipush (v := 512) hx hb dX6_init_5 (by decide) ?_
  refine va_newa (atype := .short) (ty := .short) (a0 := (512, .inl (fun _ => 0))) hx hb (hts _ (List.mem_cons_of_mem _ m_ac_short)) rfl hK hP hD hS hA (fun _ => rfl) (by decide) rfl (Nat.le_of_ble_eq_true rfl) (Nat.le_of_ble_eq_true rfl) (Nat.le_of_ble_eq_true rfl) dX6_init_8 (fun q0 cA H hK2 hP hD hS => ?_)
  have hcy : cA = cy 3 := cy_same (fun _ => by simp) hK2 (i := 6) (j := 3) rfl rfl
  rw [hcy] at hP hD
  clear hcy hK2
  have hP : va_P (dC, dI) vwCl [(h0, .inr (6, [.null, .int 0, .null, .null, .int 0])), (q0, .inl (cy 3, 512, .inl (fun _ => 0)))] H := hP
  have hD : va_D A [(h0, .inr (6, [.null, .int 0, .null, .null, .int 0])), (q0, .inl (cy 3, 512, .inl (fun _ => 0)))] := hD
  refine va_putF (D := (dC, dI)) (ci := 6) (v := .ref q0) (ty := (.array .short)) (C := RX6) (T := TX6) (N := 5) hx hb hts ki6 tyX6 tyX6_ok nmX6 hown hK hP hD hS 0 rfl rfl 0 (by decide) kf9 (fun _ h9 => h9) rfl hin0 rfl (by decide +kernel) rfl rfl (Nat.le_of_ble_eq_true rfl) dX6_init_10 (fun H locs hP hD hS => ?_)
  have hP : va_P (dC, dI) vwCl [(h0, .inr (6, [.ref q0, .int 0, .null, .null, .int 0])), (q0, .inl (cy 3, 512, .inl (fun _ => 0)))] H := hP
  have hD : va_D A [(h0, .inr (6, [.ref q0, .int 0, .null, .null, .int 0])), (q0, .inl (cy 3, 512, .inl (fun _ => 0)))] := hD
  refine lv_aload_n hx hb dX6_init_13 rfl (lv_at hl 0 rfl) ?_
  refine lv_sipush (v := 512) hx hb dX6_init_14 (by decide) ?_
  refine va_newa (atype := .short) (ty := .short) (a0 := (512, .inl (fun _ => 0))) hx hb (hts _ (List.mem_cons_of_mem _ m_ac_short)) rfl hK hP hD hS hA (fun _ => rfl) (by decide) rfl (Nat.le_of_ble_eq_true rfl) (Nat.le_of_ble_eq_true rfl) (Nat.le_of_ble_eq_true rfl) dX6_init_17 (fun q1 cA H hK2 hP hD hS => ?_)
  have hcy : cA = cy 3 := cy_same (fun _ => by simp) hK2 (i := 6) (j := 3) rfl rfl
  rw [hcy] at hP hD
  clear hcy hK2
  have hP : va_P (dC, dI) vwCl [(h0, .inr (6, [.ref q0, .int 0, .null, .null, .int 0])), (q0, .inl (cy 3, 512, .inl (fun _ => 0))), (q1, .inl (cy 3, 512, .inl (fun _ => 0)))] H := hP
  have hD : va_D A [(h0, .inr (6, [.ref q0, .int 0, .null, .null, .int 0])), (q0, .inl (cy 3, 512, .inl (fun _ => 0))), (q1, .inl (cy 3, 512, .inl (fun _ => 0)))] := hD
  refine va_putF (D := (dC, dI)) (ci := 6) (v := .ref q1) (ty := (.array .short)) (C := RX6) (T := TX6) (N := 5) hx hb hts ki6 tyX6 tyX6_ok nmX6 hown hK hP hD hS 0 rfl rfl 2 (by decide) kf15 (fun _ h9 => h9) rfl hin0 rfl (by decide +kernel) rfl rfl (Nat.le_of_ble_eq_true rfl) dX6_init_19 (fun H locs hP hD hS => ?_)
  have hP : va_P (dC, dI) vwCl [(h0, .inr (6, [.ref q0, .int 0, .ref q1, .null, .int 0])), (q0, .inl (cy 3, 512, .inl (fun _ => 0))), (q1, .inl (cy 3, 512, .inl (fun _ => 0)))] H := hP
  have hD : va_D A [(h0, .inr (6, [.ref q0, .int 0, .ref q1, .null, .int 0])), (q0, .inl (cy 3, 512, .inl (fun _ => 0))), (q1, .inl (cy 3, 512, .inl (fun _ => 0)))] := hD
  refine lv_aload_n hx hb dX6_init_22 rfl (lv_at hl 0 rfl) ?_
  refine lv_sipush (v := 2304) hx hb dX6_init_23 (by decide) ?_
  refine va_newa (atype := .int) (ty := .int) (a0 := (2304, .inl (fun _ => 0))) hx hb (hts _ (List.mem_cons_of_mem _ m_ac_int)) rfl hK hP hD hS hA (fun _ => rfl) (by decide) rfl (Nat.le_of_ble_eq_true rfl) (Nat.le_of_ble_eq_true rfl) (Nat.le_of_ble_eq_true rfl) dX6_init_26 (fun q2 cA H hK2 hP hD hS => ?_)
  have hcy : cA = cy 0 := cy_same (fun _ => by simp) hK2 (i := 6) (j := 0) rfl rfl
  rw [hcy] at hP hD
  clear hcy hK2
  have hP : va_P (dC, dI) vwCl [(h0, .inr (6, [.ref q0, .int 0, .ref q1, .null, .int 0])), (q0, .inl (cy 3, 512, .inl (fun _ => 0))), (q1, .inl (cy 3, 512, .inl (fun _ => 0))), (q2, .inl (cy 0, 2304, .inl (fun _ => 0)))] H := hP
  have hD : va_D A [(h0, .inr (6, [.ref q0, .int 0, .ref q1, .null, .int 0])), (q0, .inl (cy 3, 512, .inl (fun _ => 0))), (q1, .inl (cy 3, 512, .inl (fun _ => 0))), (q2, .inl (cy 0, 2304, .inl (fun _ => 0)))] := hD
  refine va_putF (D := (dC, dI)) (ci := 6) (v := .ref q2) (ty := (.array .int)) (C := RX6) (T := TX6) (N := 5) hx hb hts ki6 tyX6 tyX6_ok nmX6 hown hK hP hD hS 0 rfl rfl 3 (by decide) kf18 (fun _ h9 => h9) rfl hin0 rfl (by decide +kernel) rfl rfl (Nat.le_of_ble_eq_true rfl) dX6_init_28 (fun H locs hP hD hS => ?_)
  have hP : va_P (dC, dI) vwCl [(h0, .inr (6, [.ref q0, .int 0, .ref q1, .ref q2, .int 0])), (q0, .inl (cy 3, 512, .inl (fun _ => 0))), (q1, .inl (cy 3, 512, .inl (fun _ => 0))), (q2, .inl (cy 0, 2304, .inl (fun _ => 0)))] H := hP
  have hD : va_D A [(h0, .inr (6, [.ref q0, .int 0, .ref q1, .ref q2, .int 0])), (q0, .inl (cy 3, 512, .inl (fun _ => 0))), (q1, .inl (cy 3, 512, .inl (fun _ => 0))), (q2, .inl (cy 0, 2304, .inl (fun _ => 0)))] := hD
  refine W.widen (k := 3) (n := 3328) (Nat.le_of_ble_eq_true rfl) (Nat.le_of_ble_eq_true rfl) ?_
  exact W.vret hx hb hr (fun t ht hW => ⟨⟨(fun i => ([q0, q1, q2] : List Nat).getD i 0), rfl, trivial, by rw [ht]; exact hP, va_K.moved hW.alike hK, hD⟩, hS.F ht⟩) hS.2.2 dX6_init_31
