set_option maxHeartbeats 16000000 in
set_option maxRecDepth 100000 in
theorem c_R_init (l : Launch) (dC : Nat → ClassId) (dI : Nat → Nat → Nat) (cy : Nat → ClassId) (h0 : Nat) (sz : Nat) (tx : Nat) (bk : Nat) (fb : List Value) (bc : Nat) (hfb : fb[0]? = some (.ref bc)) : Met l yX4_init wsX4_init ({ frames := 2, cells := 1, slots := 6, locals := 33 } : Room) (cP (dC, dI) cy [.ref h0, .ref tx, .ref bk] [(h0, .inr (4, [.null, .null, .null, .int 0, .int 0])), (bk, .inr (0, fb))] sz) (va_Qv (fun (_ : Nat → Nat) => True) (fun (u : Nat → Nat) t => va_P (dC, dI) vwCl [(h0, .inr (4, [.ref (u 0), .ref bk, .ref bc, .int 0, .int (-1)])), (bk, .inr (0, fb)), ((u 0), .inr (5, [.ref tx, .int 0, .int 0, .int 0, .int 0, .long 0]))] t.heap ∧ va_K (dC, dI) vwCl (tyW cy) t ∧ va_D (va_A [(h0, .inr (4, [.null, .null, .null, .int 0, .int 0])), (bk, .inr (0, fb))] sz) [(h0, .inr (4, [.ref (u 0), .ref bk, .ref bc, .int 0, .int (-1)])), (bk, .inr (0, fb)), ((u 0), .inr (5, [.ref tx, .int 0, .int 0, .int 0, .int 0, .long 0]))]) (va_A [(h0, .inr (4, [.null, .null, .null, .int 0, .int 0])), (bk, .inr (0, fb))] sz)) 1 6 (va_A [(h0, .inr (4, [.null, .null, .null, .int 0, .int 0])), (bk, .inr (0, fb))] sz) := by
  refine Met.ofW (cc := cX4_init) (maxL := 3) (ret := none) (by decide) rfl ?_
  intro p e s m args below meth c s₁ B hml hv
  obtain ⟨hav, hsz, hP, hK, hD0, hN⟩ := hv
  have hx := B.exec
  have hb := B.bytes
  have hr := B.returns
  have hts := atoms_spec (ws := wsX4_init) B.pre
  have hown : s.vm.findClass RX4 = some m.cls := findClass_of_methodNamed B.named
  have hlocks := B.notSynchronized
  have hin0 : meth.name = "<init>" := (name_of_methodNamed B.named B.method).1
  subst hsz
  have hD := hD0.self (sz := s.heap.size)
  generalize hAe : va_A [(h0, .inr (4, [.null, .null, .null, .int 0, .int 0])), (bk, .inr (0, fb))] s.heap.size = A at hD ⊢
  have hA : ∀ q : Nat, s.heap.size ≤ q → A q := fun q h => by rw [← hAe]; exact Or.inr h
  have hS : va_S A s.heap s.heap [] := va_S.rf
  have hl := lv_entry ([.ref h0, .ref tx, .ref bk] : List Value) (n := 3) (Nat.le_of_ble_eq_true rfl)
  have hfr := lg_entry_eq m ([.ref h0, .ref tx, .ref bk] : List Value) 3
  rw [← hav] at hfr
  rw [hfr]
  clear hfr hav
  generalize (lg_sl ([.ref h0, .ref tx, .ref bk] : List Value) ++ List.replicate (3 - (lg_sl ([.ref h0, .ref tx, .ref bk] : List Value)).length) Slot.unset).toArray = ls at hl ⊢
  have hl : lv_has ls 3 [(0, .ref h0), (1, .ref tx), (2, .ref bk)] := hl
  have kf9 := hts _ (List.mem_cons_of_mem _ m_fl_X4_9)
  have ki4 := (fun w h => List.mem_cons_of_mem _ (i_X4 w h) : ∀ w ∈ u_ws RX4 TX4 5, w ∈ wsX4_init)
  have kf20 := hts _ (List.mem_cons_of_mem _ m_fl_X4_20)
  have kf24 := hts _ (List.mem_cons_of_mem _ m_fl_X4_24)
  have kf28 := hts _ (List.mem_cons_of_mem _ m_fl_X4_28)
  have ki0 := (fun w h => List.mem_cons_of_mem _ (i_X0 w h) : ∀ w ∈ u_ws RX0 TX0 15, w ∈ wsX4_init)
  have kf34 := hts _ (List.mem_cons_of_mem _ m_fl_X4_34)
  refine (?_ : ∀ (H : Heap) (locs : List Loc), va_P (dC, dI) vwCl [(h0, .inr (4, [.null, .null, .null, .int 0, .int 0])), (bk, .inr (0, fb))] H → va_D A [(h0, .inr (4, [.null, .null, .null, .int 0, .int 0])), (bk, .inr (0, fb))] → va_S A s.heap H locs → W p l e ({ frames := 2, cells := 1, slots := 6, locals := 33 } : Room) s m args below meth c H locs 0 0 (MQ below (va_Qv _ _ A) args s 1 6 A) (F0 m 0 ls [])) s.heap [] hP hD hS
  clear hP hD hS
  intro H locs hP hD hS
  refine lv_aload_n hx hb dX4_init_0 rfl (lv_at hl 0 rfl) ?_
  refine W.objInit hx hb hown (hts _ (List.mem_cons_of_mem _ m_ml_X4_3)) (hts _ (List.mem_cons_of_mem _ m_im_java_lang_Object__init)) (hts _ (List.mem_cons_of_mem _ m_cd_java_lang_Object__init)) rfl (by rw [hml]; exact hl.1) rfl dX4_init_1 (Nat.le_of_ble_eq_true rfl) (Nat.le_of_ble_eq_true rfl) ?_
  refine W.eq (g2 := F0 m 4 ls []) rfl ?_
  refine lv_aload_n hx hb dX4_init_4 rfl (lv_at hl 0 rfl) ?_
  refine lv_iconst (v := (-1)) hx hb dX4_init_5 (by decide) ?_
  refine va_put (D := (dC, dI)) (ci := 4) (v := .int (-1)) (ty := .int) (C := RX4) (T := TX4) (N := 5) hx hb hts ki4 tyX4 tyX4_ok nmX4 hown hK hP hD hS 0 rfl rfl 4 (by decide) kf9 (fun _ h9 => h9) rfl (by decide +kernel) rfl rfl (Nat.le_of_ble_eq_true rfl) dX4_init_6 (fun H locs hP hD hS => ?_)
  have hP : va_P (dC, dI) vwCl [(h0, .inr (4, [.null, .null, .null, .int 0, .int (-1)])), (bk, .inr (0, fb))] H := hP
  have hD : va_D A [(h0, .inr (4, [.null, .null, .null, .int 0, .int (-1)])), (bk, .inr (0, fb))] := hD
  refine lv_aload_n hx hb dX4_init_9 rfl (lv_at hl 0 rfl) ?_
  refine va_new (ci := 5) (fs := [.null, .int 0, .int 0, .int 0, .int 0, .long 0]) (C := RX5) (T := TX5) (N := 6) hx hb hts (fun w h => List.mem_cons_of_mem _ (i_X5 w h)) tyX5 tyX5_ok hown (hts _ (List.mem_cons_of_mem _ m_cl_X4_15)) (hts _ (List.mem_cons_of_mem _ m_mk_X5)) (hts _ (List.mem_cons_of_mem _ m_in_X5)) hK hP hD hS hA rfl dv_X5 (Nat.le_of_ble_eq_true rfl) (Nat.le_of_ble_eq_true rfl) dX4_init_10 (fun q0 H hP hD hS => ?_)
  have hP : va_P (dC, dI) vwCl [(h0, .inr (4, [.null, .null, .null, .int 0, .int (-1)])), (bk, .inr (0, fb)), (q0, .inr (5, [.null, .int 0, .int 0, .int 0, .int 0, .long 0]))] H := hP
  have hD : va_D A [(h0, .inr (4, [.null, .null, .null, .int 0, .int (-1)])), (bk, .inr (0, fb)), (q0, .inr (5, [.null, .int 0, .int 0, .int 0, .int 0, .long 0]))] := hD
  refine lv_dup hx hb dX4_init_13 rfl ?_
  refine lv_aload_n hx hb dX4_init_14 rfl (lv_at hl 1 rfl) ?_
  refine newI (host := "TypeCourt") (cc := cX4_init) (wr := [(h0, .inr (4, [.null, .null, .null, .int 0, .int (-1)])), (bk, .inr (0, fb))]) (As := [.ref tx]) (rest := [.ref q0, .ref h0]) ⟨hx, hb, hml, hown, hts⟩ (c_T_init l dC dI cy q0 H.size tx) (cwI 1 hts (goodI m_cd_X5_init) rfl rfl rfl (hts _ (List.mem_cons_of_mem _ m_in_X5)) (hts _ (List.mem_cons_of_mem _ m_ml_X4_17)) (hts _ (List.mem_cons_of_mem _ m_im_X5_init)) rfl (by decide +kernel) ⟨Nat.le_of_ble_eq_true rfl, Nat.le_of_ble_eq_true rfl⟩) hN hK hP hD hS hA [2] [0, 1] rfl rfl rfl rfl (by decide) rfl hl.1 rfl (Nat.le_of_ble_eq_true rfl) dX4_init_15 ⟨Nat.le_of_ble_eq_true rfl, Nat.le_of_ble_eq_true rfl⟩ (fun u15 H locs hw hP hD hS => ?_)
  have hP : va_P (dC, dI) vwCl [(h0, .inr (4, [.null, .null, .null, .int 0, .int (-1)])), (bk, .inr (0, fb)), (q0, .inr (5, [.ref tx, .int 0, .int 0, .int 0, .int 0, .long 0]))] H := hP
  have hD : va_D A [(h0, .inr (4, [.null, .null, .null, .int 0, .int (-1)])), (bk, .inr (0, fb)), (q0, .inr (5, [.ref tx, .int 0, .int 0, .int 0, .int 0, .long 0]))] := hD
  refine va_putF (D := (dC, dI)) (ci := 4) (v := .ref q0) (ty := (.object "TypeCourt$Tokens")) (C := RX4) (T := TX4) (N := 5) hx hb hts ki4 tyX4 tyX4_ok nmX4 hown hK hP hD hS 0 rfl rfl 0 (by decide) kf20 (fun _ h9 => h9) rfl hin0 rfl (by decide +kernel) rfl rfl (Nat.le_of_ble_eq_true rfl) dX4_init_18 (fun H locs hP hD hS => ?_)
  have hP : va_P (dC, dI) vwCl [(h0, .inr (4, [.ref q0, .null, .null, .int 0, .int (-1)])), (bk, .inr (0, fb)), (q0, .inr (5, [.ref tx, .int 0, .int 0, .int 0, .int 0, .long 0]))] H := hP
  have hD : va_D A [(h0, .inr (4, [.ref q0, .null, .null, .int 0, .int (-1)])), (bk, .inr (0, fb)), (q0, .inr (5, [.ref tx, .int 0, .int 0, .int 0, .int 0, .long 0]))] := hD
  refine lv_aload_n hx hb dX4_init_21 rfl (lv_at hl 0 rfl) ?_
  refine lv_aload_n hx hb dX4_init_22 rfl (lv_at hl 2 rfl) ?_
  refine va_put (D := (dC, dI)) (ci := 4) (v := .ref bk) (ty := (.object "TypeCourt$Book")) (C := RX4) (T := TX4) (N := 5) hx hb hts ki4 tyX4 tyX4_ok nmX4 hown hK hP hD hS 0 rfl rfl 1 (by decide) kf24 (fun _ h9 => h9) rfl (by decide +kernel) rfl rfl (Nat.le_of_ble_eq_true rfl) dX4_init_23 (fun H locs hP hD hS => ?_)
  have hP : va_P (dC, dI) vwCl [(h0, .inr (4, [.ref q0, .ref bk, .null, .int 0, .int (-1)])), (bk, .inr (0, fb)), (q0, .inr (5, [.ref tx, .int 0, .int 0, .int 0, .int 0, .long 0]))] H := hP
  have hD : va_D A [(h0, .inr (4, [.ref q0, .ref bk, .null, .int 0, .int (-1)])), (bk, .inr (0, fb)), (q0, .inr (5, [.ref tx, .int 0, .int 0, .int 0, .int 0, .long 0]))] := hD
  refine lv_aload_n hx hb dX4_init_26 rfl (lv_at hl 0 rfl) ?_
  refine lv_aload_n hx hb dX4_init_27 rfl (lv_at hl 2 rfl) ?_
  refine va_get (D := (dC, dI)) (ci := 0) (v := .ref bc) (C := RX0) (T := TX0) (N := 15) hx hb hts ki0 hown hK hP 1 rfl rfl 0 (by decide) kf28 (fun _ h9 => h9) hfb dX4_init_28 ?_
  refine va_put (D := (dC, dI)) (ci := 4) (v := .ref bc) (ty := (.object "TypeCourt$Concepts")) (C := RX4) (T := TX4) (N := 5) hx hb hts ki4 tyX4 tyX4_ok nmX4 hown hK hP hD hS 0 rfl rfl 2 (by decide) kf34 (fun _ h9 => h9) rfl (by decide +kernel) rfl rfl (Nat.le_of_ble_eq_true rfl) dX4_init_31 (fun H locs hP hD hS => ?_)
  have hP : va_P (dC, dI) vwCl [(h0, .inr (4, [.ref q0, .ref bk, .ref bc, .int 0, .int (-1)])), (bk, .inr (0, fb)), (q0, .inr (5, [.ref tx, .int 0, .int 0, .int 0, .int 0, .long 0]))] H := hP
  have hD : va_D A [(h0, .inr (4, [.ref q0, .ref bk, .ref bc, .int 0, .int (-1)])), (bk, .inr (0, fb)), (q0, .inr (5, [.ref tx, .int 0, .int 0, .int 0, .int 0, .long 0]))] := hD
  refine W.widen (k := 1) (n := 6) (Nat.le_of_ble_eq_true rfl) (Nat.le_of_ble_eq_true rfl) ?_
  exact W.vret hx hb hr (fun t ht hW => ⟨⟨(fun i => ([q0] : List Nat).getD i 0), rfl, trivial, by rw [ht]; exact hP, va_K.moved hW.alike hK, hD⟩, hS.F ht⟩) hS.2.2 dX4_init_34
