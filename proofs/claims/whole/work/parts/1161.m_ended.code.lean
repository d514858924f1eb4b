def f_M_ended (a1 : Int32) (iM39 : Int32) (aM13 : Nat → Int32) : Option (Int32 × (Nat → Int32)) := if ((200 : Int32) + iM39) < 0 ∨ 400 ≤ (((200 : Int32) + iM39)).toNatClampNeg then none else (some ((iM39 + (1 : Int32)), (upd aM13 (((200 : Int32) + iM39)).toNatClampNeg a1)))
set_option maxHeartbeats 8000000 in
set_option maxRecDepth 100000 in
theorem c_M_ended (l : Launch) (dC : Nat → ClassId) (dI : Nat → Nat → Nat) (cy : Nat → ClassId) (ad : Nat → Nat) (sz : Nat) (a1 : Int32) (iM : Nat → Int32) (aM : Nat → Nat → Int32) (q : Int32 × (Nat → Int32)) (h : f_M_ended a1 (iM 39) (aM 13) = some q) : Met l yX8_ended wsX8_ended ({ frames := 0, cells := 0, slots := 0, locals := 0 } : Room) (cP (dC, dI) cy [.ref (ad 0), .int a1] (zzM ad cy iM aM) sz) (cQv (dC, dI) cy (zzM ad cy (us iM [(39, q.1)]) (us aM [(13, q.2)])) (va_A (zzM ad cy iM aM) sz)) 0 0 (va_A (zzM ad cy iM aM) sz) := by
  refine Met.ofW (cc := cX8_ended) (maxL := 2) (ret := none) (by decide) rfl ?_
  intro p e s m args below meth c s₁ B hml hv
  obtain ⟨hav, hsz, hP, hK, hD0, hN⟩ := hv
  have hx := B.exec
  have hb := B.bytes
  have hr := B.returns
  have hts := atoms_spec (ws := wsX8_ended) B.pre
  have hown : s.vm.findClass RX8 = some m.cls := findClass_of_methodNamed B.named
  have hlocks := B.notSynchronized
  subst hsz
  have hD := hD0.self (sz := s.heap.size)
  generalize hAe : va_A (zzM ad cy iM aM) s.heap.size = A at hD ⊢
  have hA : ∀ q : Nat, s.heap.size ≤ q → A q := fun q h => by rw [← hAe]; exact Or.inr h
  have hS : va_S A s.heap s.heap [] := va_S.rf
  generalize hWQ : (zzM ad cy (us iM [(39, q.1)]) (us aM [(13, q.2)])) = WQ
  generalize hQQ : MQ below (cQv (dC, dI) cy WQ A) args s 0 0 A = QQ
  have hl := lv_entry ([.ref (ad 0), .int a1] : List Value) (n := 2) (Nat.le_of_ble_eq_true rfl)
  have hfr := lg_entry_eq m ([.ref (ad 0), .int a1] : List Value) 2
  rw [← hav] at hfr
  rw [hfr]
  clear hfr hav
  generalize (lg_sl ([.ref (ad 0), .int a1] : List Value) ++ List.replicate (2 - (lg_sl ([.ref (ad 0), .int a1] : List Value)).length) Slot.unset).toArray = ls at hl ⊢
  have hl : lv_has ls 2 [(0, .ref (ad 0)), (1, .int a1)] := hl
  have kf33 := hts _ (List.mem_cons_of_mem _ m_fl_X8_33)
  have ki8 := (fun w h => List.mem_cons_of_mem _ (i_X8 w h) : ∀ w ∈ u_ws RX8 TX8 78, w ∈ wsX8_ended)
  have kf245 := hts _ (List.mem_cons_of_mem _ m_fl_X8_245)
  refine (?_ : ∀ (H : Heap) (locs : List Loc), va_P (dC, dI) vwCl (zzM ad cy iM aM) H → va_D A (zzM ad cy iM aM) → va_S A s.heap H locs → W p l e ({ frames := 0, cells := 0, slots := 0, locals := 0 } : Room) s m args below meth c H locs 0 0 QQ (F0 m 0 ls [])) s.heap [] hP hD hS
  clear hP hD hS
  intro H locs hP hD hS
  unfold f_M_ended at h
  refine lv_aload_n hx hb dX8_ended_0 rfl (lv_at hl 0 rfl) ?_
  refine va_get (D := (dC, dI)) (ci := 8) (v := .ref (ad 8)) (C := RX8) (T := TX8) (N := 78) hx hb hts ki8 hown hK hP 0 rfl rfl 13 (by decide) kf33 (fun _ h9 => h9) rfl dX8_ended_1 ?_
  refine lv_sipush (v := 200) hx hb dX8_ended_4 (by decide) ?_
  refine lv_aload_n hx hb dX8_ended_7 rfl (lv_at hl 0 rfl) ?_
  refine va_get (D := (dC, dI)) (ci := 8) (v := .int (iM 39)) (C := RX8) (T := TX8) (N := 78) hx hb hts ki8 hown hK hP 0 rfl rfl 39 (by decide) kf245 (fun _ h9 => h9) rfl dX8_ended_8 ?_
  refine lv_iadd hx hb dX8_ended_11 ?_
  refine lv_iload_n hx hb dX8_ended_12 rfl (lv_at hl 1 rfl) ?_
  obtain ⟨g_76, h⟩ := g_n h
  refine va_iast (f := (aM 13)) hx hb hK hP hD hS 8 0 rfl rfl g_76 dX8_ended_13 (fun H locs hP hD hS => ?_)
  have hP : va_P (dC, dI) vwCl (zzM ad cy iM (us aM [(13, (upd (aM 13) (((200 : Int32) + (iM 39))).toNatClampNeg a1))])) H := Eq.mp (congrArg (fun w => va_P (dC, dI) vwCl w H) (sfM_aM13 ad cy iM aM ((upd (aM 13) (((200 : Int32) + (iM 39))).toNatClampNeg a1)))) hP
  have hD : va_D A (zzM ad cy iM (us aM [(13, (upd (aM 13) (((200 : Int32) + (iM 39))).toNatClampNeg a1))])) := Eq.mp (congrArg (fun w => va_D A w) (sfM_aM13 ad cy iM aM ((upd (aM 13) (((200 : Int32) + (iM 39))).toNatClampNeg a1)))) hD
  refine lv_aload_n hx hb dX8_ended_14 rfl (lv_at hl 0 rfl) ?_
  refine lv_dup hx hb dX8_ended_15 rfl ?_
  refine va_get (D := (dC, dI)) (ci := 8) (v := .int (iM 39)) (C := RX8) (T := TX8) (N := 78) hx hb hts ki8 hown hK hP 0 rfl rfl 39 (by decide) kf245 (fun _ h9 => h9) rfl dX8_ended_16 ?_
  refine lv_iconst (v := 1) hx hb dX8_ended_19 (by decide) ?_
  refine lv_iadd hx hb dX8_ended_20 ?_
  refine va_put (D := (dC, dI)) (ci := 8) (v := .int (((iM 39) + (1 : Int32)))) (ty := .int) (C := RX8) (T := TX8) (N := 78) hx hb hts ki8 tyX8 tyX8_ok nmX8 hown hK hP hD hS 0 rfl rfl 39 (by decide) kf245 (fun _ h9 => h9) rfl (by decide +kernel) rfl rfl (Nat.le_of_ble_eq_true rfl) dX8_ended_21 (fun H locs hP hD hS => ?_)
  have hP : va_P (dC, dI) vwCl (zzM ad cy (us iM [(39, ((iM 39) + (1 : Int32)))]) (us aM [(13, (upd (aM 13) (((200 : Int32) + (iM 39))).toNatClampNeg a1))])) H := Eq.mp (congrArg (fun w => va_P (dC, dI) vwCl w H) (sfM_iM39 ad cy iM (us aM [(13, (upd (aM 13) (((200 : Int32) + (iM 39))).toNatClampNeg a1))]) (((iM 39) + (1 : Int32))))) hP
  have hD : va_D A (zzM ad cy (us iM [(39, ((iM 39) + (1 : Int32)))]) (us aM [(13, (upd (aM 13) (((200 : Int32) + (iM 39))).toNatClampNeg a1))])) := Eq.mp (congrArg (fun w => va_D A w) (sfM_iM39 ad cy iM (us aM [(13, (upd (aM 13) (((200 : Int32) + (iM 39))).toNatClampNeg a1))]) (((iM 39) + (1 : Int32))))) hD
  have h' := Option.some.inj h
  rw [← hQQ]
  exact W.vret hx hb hr (fun t ht hW => ⟨⟨(), rfl, trivial, by rw [← hWQ, ← h', ht]; exact hP, va_K.moved hW.alike hK⟩, hS.F ht⟩) hS.2.2 dX8_ended_24
