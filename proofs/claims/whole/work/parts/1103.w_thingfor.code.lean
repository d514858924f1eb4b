def f_W_thingFor_65 (iW1 : Int32) (aW0 : Nat → Int32) (aW2 : Nat → Int32) (v1 : Int32) (x_iW1 : Int32) (x_aW0 : Nat → Int32) (x_aW2 : Nat → Int32) : Option (Int32 × Int32 × (Nat → Int32) × (Nat → Int32)) := if v1 < 0 ∨ 512 ≤ v1.toNatClampNeg then none else (some ((x_aW2 v1.toNatClampNeg), x_iW1, x_aW0, x_aW2))
def f_W_thingFor (a1 : Int32) (iW1 : Int32) (aW0 : Nat → Int32) (aW2 : Nat → Int32) : Option (Int32 × Int32 × (Nat → Int32) × (Nat → Int32)) := if a1 < 0 then (some ((0 : Int32), iW1, aW0, aW2)) else (if a1 < (512 : Int32) then (if a1 < 0 ∨ 512 ≤ a1.toNatClampNeg then none else (if (aW2 a1.toNatClampNeg) = (-1 : Int32) then (if (512 : Int32) ≤ iW1 then (f_W_thingFor_65 iW1 aW0 aW2 a1 iW1 aW0 aW2) else (if iW1 < 0 ∨ 512 ≤ iW1.toNatClampNeg then none else (f_W_thingFor_65 iW1 aW0 aW2 a1 ((iW1 + (1 : Int32))) ((upd aW0 iW1.toNatClampNeg (vp_nar .short (a1).toInt16.toInt32))) ((upd aW2 a1.toNatClampNeg (vp_nar .short (iW1).toInt16.toInt32)))))) else (f_W_thingFor_65 iW1 aW0 aW2 a1 iW1 aW0 aW2))) else (some ((0 : Int32), iW1, aW0, aW2)))
set_option maxHeartbeats 8000000 in
set_option maxRecDepth 100000 in
theorem c_W_thingFor (l : Launch) (dC : Nat → ClassId) (dI : Nat → Nat → Nat) (cy : Nat → ClassId) (ad : Nat → Nat) (sz : Nat) (a1 : Int32) (iW : Nat → Int32) (aW : Nat → Nat → Int32) (q : Int32 × Int32 × (Nat → Int32) × (Nat → Int32)) (h : f_W_thingFor a1 (iW 1) (aW 0) (aW 2) = some q) : Met l yX6_thingFor wsX6_thingFor ({ frames := 0, cells := 0, slots := 0, locals := 0 } : Room) (cP (dC, dI) cy [.ref (ad 0), .int a1] (zzw ad cy iW aW) sz) (cQi (dC, dI) cy q.1 (zzw ad cy (us iW [(1, q.2.1)]) (us aW [(0, q.2.2.1), (2, q.2.2.2)])) (va_A (zzw ad cy iW aW) sz)) 0 0 (va_A (zzw ad cy iW aW) sz) := by
  refine Met.ofW (cc := cX6_thingFor) (maxL := 2) (ret := (some .int)) (by decide) rfl ?_
  intro p e s m args below meth c s₁ B hml hv
  obtain ⟨hav, hsz, hP, hK, hD0, hN⟩ := hv
  have hx := B.exec
  have hb := B.bytes
  have hr := B.returns
  have hts := atoms_spec (ws := wsX6_thingFor) B.pre
  have hown : s.vm.findClass RX6 = some m.cls := findClass_of_methodNamed B.named
  have hlocks := B.notSynchronized
  subst hsz
  have hD := hD0.self (sz := s.heap.size)
  generalize hAe : va_A (zzw ad cy iW aW) s.heap.size = A at hD ⊢
  have hA : ∀ q : Nat, s.heap.size ≤ q → A q := fun q h => by rw [← hAe]; exact Or.inr h
  have hS : va_S A s.heap s.heap [] := va_S.rf
  generalize hWQ : (zzw ad cy (us iW [(1, q.2.1)]) (us aW [(0, q.2.2.1), (2, q.2.2.2)])) = WQ
  generalize hQQ : MQ below (cQi (dC, dI) cy q.1 WQ A) args s 0 0 A = QQ
  have hl := lv_entry ([.ref (ad 0), .int a1] : List Value) (n := 2) (Nat.le_of_ble_eq_true rfl)
  have hfr := lg_entry_eq m ([.ref (ad 0), .int a1] : List Value) 2
  rw [← hav] at hfr
  rw [hfr]
  clear hfr hav
  generalize (lg_sl ([.ref (ad 0), .int a1] : List Value) ++ List.replicate (2 - (lg_sl ([.ref (ad 0), .int a1] : List Value)).length) Slot.unset).toArray = ls at hl ⊢
  have hl : lv_has ls 2 [(0, .ref (ad 0)), (1, .int a1)] := hl
  have kf15 := hts _ (List.mem_cons_of_mem _ m_fl_X6_15)
  have ki6 := (fun w h => List.mem_cons_of_mem _ (i_X6 w h) : ∀ w ∈ u_ws RX6 TX6 5, w ∈ wsX6_thingFor)
  have kf22 := hts _ (List.mem_cons_of_mem _ m_fl_X6_22)
  have kf9 := hts _ (List.mem_cons_of_mem _ m_fl_X6_9)
  refine (?_ : ∀ (H : Heap) (locs : List Loc), va_P (dC, dI) vwCl (zzw ad cy iW aW) H → va_D A (zzw ad cy iW aW) → va_S A s.heap H locs → W p l e ({ frames := 0, cells := 0, slots := 0, locals := 0 } : Room) s m args below meth c H locs 0 0 QQ (F0 m 0 ls [])) s.heap [] hP hD hS
  clear hP hD hS
  have B65 : ∀ (v1 : Int32) (x_iW1 : Int32) (x_aW0 : Nat → Int32) (x_aW2 : Nat → Int32) (H : Heap) (locs : List Loc) (ls : Array Slot), f_W_thingFor_65 (iW 1) (aW 0) (aW 2) v1 x_iW1 x_aW0 x_aW2 = some q → va_P (dC, dI) vwCl (zzw ad cy (us iW [(1, x_iW1)]) (us aW [(0, x_aW0), (2, x_aW2)])) H → va_D A (zzw ad cy (us iW [(1, x_iW1)]) (us aW [(0, x_aW0), (2, x_aW2)])) → va_S A s.heap H locs → lv_has ls 2 [(0, .ref (ad 0)), (1, .int v1)] → W p l e ({ frames := 0, cells := 0, slots := 0, locals := 0 } : Room) s m args below meth c H locs 0 0 QQ (F0 m 65 ls []) := by
    intro v1 x_iW1 x_aW0 x_aW2 H locs ls h hP hD hS hl
    unfold f_W_thingFor_65 at h
    refine lv_aload_n hx hb dX6_thingFor_65 rfl (lv_at hl 0 rfl) ?_
    refine va_get (D := (dC, dI)) (ci := 6) (v := .ref (ad 2)) (C := RX6) (T := TX6) (N := 5) hx hb hts ki6 hown hK hP 0 rfl rfl 2 (by decide) kf15 (fun _ h9 => h9) rfl dX6_thingFor_66 ?_
    refine lv_iload_n hx hb dX6_thingFor_69 rfl (lv_at hl 1 rfl) ?_
    obtain ⟨g_32, h⟩ := g_n h
    refine va_sald (f := x_aW2) hx hb hK hP 2 3 rfl rfl g_32 dX6_thingFor_70 ?_
    have h' := Option.some.inj h
    rw [← hQQ]
    exact W.iret (v := (x_aW2 v1.toNatClampNeg)) hx hb hr (fun t ht hW => ⟨⟨(x_aW2 v1.toNatClampNeg), (), rfl, by rw [← h'], by rw [← hWQ, ← h', ht]; exact hP, va_K.moved hW.alike hK⟩, hS.F ht⟩) hS.2.2 dX6_thingFor_71
  intro H locs hP hD hS
  unfold f_W_thingFor at h
  refine lv_iload_n hx hb dX6_thingFor_0 rfl (lv_at hl 1 rfl) ?_
  refine lv_if_lt (tgt := 11) hx hb dX6_thingFor_1 (by decide) (fun cz => ?_) (fun cz => ?_)
  · have h := g_t h cz
    refine lv_iconst (v := 0) hx hb dX6_thingFor_11 (by decide) ?_
    have h' := Option.some.inj h
    rw [← hQQ]
    exact W.iret (v := (0 : Int32)) hx hb hr (fun t ht hW => ⟨⟨(0 : Int32), (), rfl, by rw [← h'], by rw [← hWQ, ← h', ht]; exact hP, va_K.moved hW.alike hK⟩, hS.F ht⟩) hS.2.2 dX6_thingFor_12
  · have h := g_f h cz
    refine lv_iload_n hx hb dX6_thingFor_4 rfl (lv_at hl 1 rfl) ?_
    refine lv_sipush (v := 512) hx hb dX6_thingFor_5 (by decide) ?_
    refine lv_icmp_lt (tgt := 13) hx hb dX6_thingFor_8 (by decide) (fun cz => ?_) (fun cz => ?_)
    · have h := g_t h cz
      refine lv_aload_n hx hb dX6_thingFor_13 rfl (lv_at hl 0 rfl) ?_
      refine va_get (D := (dC, dI)) (ci := 6) (v := .ref (ad 2)) (C := RX6) (T := TX6) (N := 5) hx hb hts ki6 hown hK hP 0 rfl rfl 2 (by decide) kf15 (fun _ h9 => h9) rfl dX6_thingFor_14 ?_
      refine lv_iload_n hx hb dX6_thingFor_17 rfl (lv_at hl 1 rfl) ?_
      obtain ⟨g_34, h⟩ := g_n h
      refine va_sald (f := (aW 2)) hx hb hK hP 2 3 rfl rfl g_34 dX6_thingFor_18 ?_
      refine lv_iconst (v := (-1)) hx hb dX6_thingFor_19 (by decide) ?_
      refine lv_icmp_ne (tgt := 65) hx hb dX6_thingFor_20 (by decide) (fun cz => ?_) (fun cz => ?_)
      · have h := g_f h cz
        exact B65 a1 (iW 1) (aW 0) (aW 2) H locs ls h hP hD hS (lv_sub hl [0, 1] rfl)
      · have h := g_t h cz
        refine lv_aload_n hx hb dX6_thingFor_23 rfl (lv_at hl 0 rfl) ?_
        refine va_get (D := (dC, dI)) (ci := 6) (v := .int (iW 1)) (C := RX6) (T := TX6) (N := 5) hx hb hts ki6 hown hK hP 0 rfl rfl 1 (by decide) kf22 (fun _ h9 => h9) rfl dX6_thingFor_24 ?_
        refine lv_sipush (v := 512) hx hb dX6_thingFor_27 (by decide) ?_
        refine lv_icmp_ge (tgt := 65) hx hb dX6_thingFor_30 (by decide) (fun cz => ?_) (fun cz => ?_)
        · have h := g_t h cz
          exact B65 a1 (iW 1) (aW 0) (aW 2) H locs ls h hP hD hS (lv_sub hl [0, 1] rfl)
        · have h := g_f h cz
          refine lv_aload_n hx hb dX6_thingFor_33 rfl (lv_at hl 0 rfl) ?_
          refine va_get (D := (dC, dI)) (ci := 6) (v := .ref (ad 2)) (C := RX6) (T := TX6) (N := 5) hx hb hts ki6 hown hK hP 0 rfl rfl 2 (by decide) kf15 (fun _ h9 => h9) rfl dX6_thingFor_34 ?_
          refine lv_iload_n hx hb dX6_thingFor_37 rfl (lv_at hl 1 rfl) ?_
          refine lv_aload_n hx hb dX6_thingFor_38 rfl (lv_at hl 0 rfl) ?_
          refine va_get (D := (dC, dI)) (ci := 6) (v := .int (iW 1)) (C := RX6) (T := TX6) (N := 5) hx hb hts ki6 hown hK hP 0 rfl rfl 1 (by decide) kf22 (fun _ h9 => h9) rfl dX6_thingFor_39 ?_
          refine lv_i2s (v := ((iW 1)).toInt16.toInt32) hx hb dX6_thingFor_42 rfl ?_
          refine va_sast (f := (aW 2)) hx hb hK hP hD hS 2 3 rfl rfl g_34 dX6_thingFor_43 (fun H locs hP hD hS => ?_)
          have hP : va_P (dC, dI) vwCl (zzw ad cy iW (us aW [(2, (upd (aW 2) a1.toNatClampNeg (vp_nar .short ((iW 1)).toInt16.toInt32)))])) H := Eq.mp (congrArg (fun w => va_P (dC, dI) vwCl w H) (sfw_aW2 ad cy iW aW ((upd (aW 2) a1.toNatClampNeg (vp_nar .short ((iW 1)).toInt16.toInt32))))) hP
          have hD : va_D A (zzw ad cy iW (us aW [(2, (upd (aW 2) a1.toNatClampNeg (vp_nar .short ((iW 1)).toInt16.toInt32)))])) := Eq.mp (congrArg (fun w => va_D A w) (sfw_aW2 ad cy iW aW ((upd (aW 2) a1.toNatClampNeg (vp_nar .short ((iW 1)).toInt16.toInt32))))) hD
          refine lv_aload_n hx hb dX6_thingFor_44 rfl (lv_at hl 0 rfl) ?_
          refine va_get (D := (dC, dI)) (ci := 6) (v := .ref (ad 1)) (C := RX6) (T := TX6) (N := 5) hx hb hts ki6 hown hK hP 0 rfl rfl 0 (by decide) kf9 (fun _ h9 => h9) rfl dX6_thingFor_45 ?_
          refine lv_aload_n hx hb dX6_thingFor_48 rfl (lv_at hl 0 rfl) ?_
          refine va_get (D := (dC, dI)) (ci := 6) (v := .int (iW 1)) (C := RX6) (T := TX6) (N := 5) hx hb hts ki6 hown hK hP 0 rfl rfl 1 (by decide) kf22 (fun _ h9 => h9) rfl dX6_thingFor_49 ?_
          refine lv_iload_n hx hb dX6_thingFor_52 rfl (lv_at hl 1 rfl) ?_
          refine lv_i2s (v := (a1).toInt16.toInt32) hx hb dX6_thingFor_53 rfl ?_
          obtain ⟨g_37, h⟩ := g_n h
          refine va_sast (f := (aW 0)) hx hb hK hP hD hS 1 3 rfl rfl g_37 dX6_thingFor_54 (fun H locs hP hD hS => ?_)
          have hP : va_P (dC, dI) vwCl (zzw ad cy iW (us aW [(0, (upd (aW 0) (iW 1).toNatClampNeg (vp_nar .short (a1).toInt16.toInt32))), (2, (upd (aW 2) a1.toNatClampNeg (vp_nar .short ((iW 1)).toInt16.toInt32)))])) H := Eq.mp (congrArg (fun w => va_P (dC, dI) vwCl w H) (stw_aW0 ad cy iW aW [(2, (upd (aW 2) a1.toNatClampNeg (vp_nar .short ((iW 1)).toInt16.toInt32)))] ((upd (aW 0) (iW 1).toNatClampNeg (vp_nar .short (a1).toInt16.toInt32))))) hP
          have hD : va_D A (zzw ad cy iW (us aW [(0, (upd (aW 0) (iW 1).toNatClampNeg (vp_nar .short (a1).toInt16.toInt32))), (2, (upd (aW 2) a1.toNatClampNeg (vp_nar .short ((iW 1)).toInt16.toInt32)))])) := Eq.mp (congrArg (fun w => va_D A w) (stw_aW0 ad cy iW aW [(2, (upd (aW 2) a1.toNatClampNeg (vp_nar .short ((iW 1)).toInt16.toInt32)))] ((upd (aW 0) (iW 1).toNatClampNeg (vp_nar .short (a1).toInt16.toInt32))))) hD
          refine lv_aload_n hx hb dX6_thingFor_55 rfl (lv_at hl 0 rfl) ?_
          refine lv_dup hx hb dX6_thingFor_56 rfl ?_
          refine va_get (D := (dC, dI)) (ci := 6) (v := .int (iW 1)) (C := RX6) (T := TX6) (N := 5) hx hb hts ki6 hown hK hP 0 rfl rfl 1 (by decide) kf22 (fun _ h9 => h9) rfl dX6_thingFor_57 ?_
          refine lv_iconst (v := 1) hx hb dX6_thingFor_60 (by decide) ?_
          refine lv_iadd hx hb dX6_thingFor_61 ?_
          refine va_put (D := (dC, dI)) (ci := 6) (v := .int (((iW 1) + (1 : Int32)))) (ty := .int) (C := RX6) (T := TX6) (N := 5) hx hb hts ki6 tyX6 tyX6_ok nmX6 hown hK hP hD hS 0 rfl rfl 1 (by decide) kf22 (fun _ h9 => h9) rfl (by decide +kernel) rfl rfl (Nat.le_of_ble_eq_true rfl) dX6_thingFor_62 (fun H locs hP hD hS => ?_)
          have hP : va_P (dC, dI) vwCl (zzw ad cy (us iW [(1, ((iW 1) + (1 : Int32)))]) (us aW [(0, (upd (aW 0) (iW 1).toNatClampNeg (vp_nar .short (a1).toInt16.toInt32))), (2, (upd (aW 2) a1.toNatClampNeg (vp_nar .short ((iW 1)).toInt16.toInt32)))])) H := Eq.mp (congrArg (fun w => va_P (dC, dI) vwCl w H) (sfw_iW1 ad cy iW (us aW [(0, (upd (aW 0) (iW 1).toNatClampNeg (vp_nar .short (a1).toInt16.toInt32))), (2, (upd (aW 2) a1.toNatClampNeg (vp_nar .short ((iW 1)).toInt16.toInt32)))]) (((iW 1) + (1 : Int32))))) hP
          have hD : va_D A (zzw ad cy (us iW [(1, ((iW 1) + (1 : Int32)))]) (us aW [(0, (upd (aW 0) (iW 1).toNatClampNeg (vp_nar .short (a1).toInt16.toInt32))), (2, (upd (aW 2) a1.toNatClampNeg (vp_nar .short ((iW 1)).toInt16.toInt32)))])) := Eq.mp (congrArg (fun w => va_D A w) (sfw_iW1 ad cy iW (us aW [(0, (upd (aW 0) (iW 1).toNatClampNeg (vp_nar .short (a1).toInt16.toInt32))), (2, (upd (aW 2) a1.toNatClampNeg (vp_nar .short ((iW 1)).toInt16.toInt32)))]) (((iW 1) + (1 : Int32))))) hD
          exact B65 a1 (((iW 1) + (1 : Int32))) ((upd (aW 0) (iW 1).toNatClampNeg (vp_nar .short (a1).toInt16.toInt32))) ((upd (aW 2) a1.toNatClampNeg (vp_nar .short ((iW 1)).toInt16.toInt32))) H locs ls h hP hD hS (lv_sub hl [0, 1] rfl)
    · have h := g_f h cz
      refine lv_iconst (v := 0) hx hb dX6_thingFor_11 (by decide) ?_
      have h' := Option.some.inj h
      rw [← hQQ]
      exact W.iret (v := (0 : Int32)) hx hb hr (fun t ht hW => ⟨⟨(0 : Int32), (), rfl, by rw [← h'], by rw [← hWQ, ← h', ht]; exact hP, va_K.moved hW.alike hK⟩, hS.F ht⟩) hS.2.2 dX6_thingFor_12
