def f_K_truthOf (a1 : Int32) (a2 : Int32) (lK3 : Nat → Int64) : Option Int64 := if a1 < 0 then (some (0 : Int64)) else (if (200 : Int32) ≤ a1 then (some (0 : Int64)) else (if a2 < 0 then (some (0 : Int64)) else (if (8 : Int32) ≤ a2 then (some (0 : Int64)) else (if ((a1 * (8 : Int32)) + a2) < 0 ∨ 1600 ≤ (((a1 * (8 : Int32)) + a2)).toNatClampNeg then none else (some (lK3 (((a1 * (8 : Int32)) + a2)).toNatClampNeg))))))
set_option maxHeartbeats 8000000 in
set_option maxRecDepth 100000 in
theorem c_K_truthOf (l : Launch) (dC : Nat → ClassId) (dI : Nat → Nat → Nat) (cy : Nat → ClassId) (ad : Nat → Nat) (sz : Nat) (a1 : Int32) (a2 : Int32) (iK : Nat → Int32) (lK : Nat → Nat → Int64) (aK : Nat → Nat → Int32) (iB : Nat → Int32) (lB : Nat → Nat → Int64) (aB : Nat → Nat → Int32) (iC : Nat → Int32) (aC : Nat → Nat → Int32) (q : Int64) (h : f_K_truthOf a1 a2 (lK 3) = some q) : Met l yX2_truthOf wsX2_truthOf ({ frames := 0, cells := 0, slots := 0, locals := 0 } : Room) (cP (dC, dI) cy [.ref (ad 0), .int a1, .int a2] (zzK ad cy (ad 11) (ad 18) iK lK aK iB lB aB iC aC) sz) (cQl (dC, dI) cy q (zzK ad cy (ad 11) (ad 18) iK lK aK iB lB aB iC aC) (va_A (zzK ad cy (ad 11) (ad 18) iK lK aK iB lB aB iC aC) sz)) 0 0 (va_A (zzK ad cy (ad 11) (ad 18) iK lK aK iB lB aB iC aC) sz) := by
  refine Met.ofW (cc := cX2_truthOf) (maxL := 3) (ret := (some .long)) (by decide) rfl ?_
  intro p e s m args below meth c s₁ B hml hv
  obtain ⟨hav, hsz, hP, hK, hD0, hN⟩ := hv
  have hx := B.exec
  have hb := B.bytes
  have hr := B.returns
  have hts := atoms_spec (ws := wsX2_truthOf) B.pre
  have hown : s.vm.findClass RX2 = some m.cls := findClass_of_methodNamed B.named
  have hlocks := B.notSynchronized
  subst hsz
  have hD := hD0.self (sz := s.heap.size)
  generalize hAe : va_A (zzK ad cy (ad 11) (ad 18) iK lK aK iB lB aB iC aC) s.heap.size = A at hD ⊢
  have hA : ∀ q : Nat, s.heap.size ≤ q → A q := fun q h => by rw [← hAe]; exact Or.inr h
  have hS : va_S A s.heap s.heap [] := va_S.rf
  generalize hWQ : (zzK ad cy (ad 11) (ad 18) iK lK aK iB lB aB iC aC) = WQ
  generalize hQQ : MQ below (cQl (dC, dI) cy q WQ A) args s 0 0 A = QQ
  have hl := lv_entry ([.ref (ad 0), .int a1, .int a2] : List Value) (n := 3) (Nat.le_of_ble_eq_true rfl)
  have hfr := lg_entry_eq m ([.ref (ad 0), .int a1, .int a2] : List Value) 3
  rw [← hav] at hfr
  rw [hfr]
  clear hfr hav
  generalize (lg_sl ([.ref (ad 0), .int a1, .int a2] : List Value) ++ List.replicate (3 - (lg_sl ([.ref (ad 0), .int a1, .int a2] : List Value)).length) Slot.unset).toArray = ls at hl ⊢
  have hl : lv_has ls 3 [(0, .ref (ad 0)), (1, .int a1), (2, .int a2)] := hl
  have kf9 := hts _ (List.mem_cons_of_mem _ m_fl_X2_9)
  have ki2 := (fun w h => List.mem_cons_of_mem _ (i_X2 w h) : ∀ w ∈ u_ws RX2 TX2 15, w ∈ wsX2_truthOf)
  refine (?_ : ∀ (H : Heap) (locs : List Loc), va_P (dC, dI) vwCl (zzK ad cy (ad 11) (ad 18) iK lK aK iB lB aB iC aC) H → va_D A (zzK ad cy (ad 11) (ad 18) iK lK aK iB lB aB iC aC) → va_S A s.heap H locs → W p l e ({ frames := 0, cells := 0, slots := 0, locals := 0 } : Room) s m args below meth c H locs 0 0 QQ (F0 m 0 ls [])) s.heap [] hP hD hS
  clear hP hD hS
  intro H locs hP hD hS
  unfold f_K_truthOf at h
  refine lv_iload_n hx hb dX2_truthOf_0 rfl (lv_at hl 1 rfl) ?_
  refine lv_if_lt (tgt := 35) hx hb dX2_truthOf_1 (by decide) (fun cz => ?_) (fun cz => ?_)
  · have h := g_t h cz
    refine lv_lconst (v := 0) hx hb dX2_truthOf_35 (by decide) ?_
    have h' := Option.some.inj h
    rw [← hQQ]
    exact W.lret (v := (0 : Int64)) hx hb hr (fun t ht hW => ⟨⟨(0 : Int64), (), rfl, by rw [← h'], by rw [← hWQ, ht]; exact hP, va_K.moved hW.alike hK⟩, hS.F ht⟩) hS.2.2 dX2_truthOf_36
  · have h := g_f h cz
    refine lv_iload_n hx hb dX2_truthOf_4 rfl (lv_at hl 1 rfl) ?_
    refine lv_sipush (v := 200) hx hb dX2_truthOf_5 (by decide) ?_
    refine lv_icmp_ge (tgt := 35) hx hb dX2_truthOf_8 (by decide) (fun cz => ?_) (fun cz => ?_)
    · have h := g_t h cz
      refine lv_lconst (v := 0) hx hb dX2_truthOf_35 (by decide) ?_
      have h' := Option.some.inj h
      rw [← hQQ]
      exact W.lret (v := (0 : Int64)) hx hb hr (fun t ht hW => ⟨⟨(0 : Int64), (), rfl, by rw [← h'], by rw [← hWQ, ht]; exact hP, va_K.moved hW.alike hK⟩, hS.F ht⟩) hS.2.2 dX2_truthOf_36
    · have h := g_f h cz
      refine lv_iload_n hx hb dX2_truthOf_11 rfl (lv_at hl 2 rfl) ?_
      refine lv_if_lt (tgt := 35) hx hb dX2_truthOf_12 (by decide) (fun cz => ?_) (fun cz => ?_)
      · have h := g_t h cz
        refine lv_lconst (v := 0) hx hb dX2_truthOf_35 (by decide) ?_
        have h' := Option.some.inj h
        rw [← hQQ]
        exact W.lret (v := (0 : Int64)) hx hb hr (fun t ht hW => ⟨⟨(0 : Int64), (), rfl, by rw [← h'], by rw [← hWQ, ht]; exact hP, va_K.moved hW.alike hK⟩, hS.F ht⟩) hS.2.2 dX2_truthOf_36
      · have h := g_f h cz
        refine lv_iload_n hx hb dX2_truthOf_15 rfl (lv_at hl 2 rfl) ?_
        refine lv_bipush (v := 8) hx hb dX2_truthOf_16 (by decide) ?_
        refine lv_icmp_ge (tgt := 35) hx hb dX2_truthOf_18 (by decide) (fun cz => ?_) (fun cz => ?_)
        · have h := g_t h cz
          refine lv_lconst (v := 0) hx hb dX2_truthOf_35 (by decide) ?_
          have h' := Option.some.inj h
          rw [← hQQ]
          exact W.lret (v := (0 : Int64)) hx hb hr (fun t ht hW => ⟨⟨(0 : Int64), (), rfl, by rw [← h'], by rw [← hWQ, ht]; exact hP, va_K.moved hW.alike hK⟩, hS.F ht⟩) hS.2.2 dX2_truthOf_36
        · have h := g_f h cz
          refine lv_aload_n hx hb dX2_truthOf_21 rfl (lv_at hl 0 rfl) ?_
          refine va_get (D := (dC, dI)) (ci := 2) (v := .ref (ad 1)) (C := RX2) (T := TX2) (N := 15) hx hb hts ki2 hown hK hP 0 rfl rfl 3 (by decide) kf9 (fun _ h9 => h9) rfl dX2_truthOf_22 ?_
          refine lv_iload_n hx hb dX2_truthOf_25 rfl (lv_at hl 1 rfl) ?_
          refine lv_bipush (v := 8) hx hb dX2_truthOf_26 (by decide) ?_
          refine lv_imul hx hb dX2_truthOf_28 ?_
          refine lv_iload_n hx hb dX2_truthOf_29 rfl (lv_at hl 2 rfl) ?_
          refine lv_iadd hx hb dX2_truthOf_30 ?_
          obtain ⟨g_21, h⟩ := g_n h
          refine va_lald (f := (lK 3)) hx hb hK hP 1 2 rfl rfl g_21 dX2_truthOf_31 ?_
          refine lv_goto (tgt := 36) hx hb dX2_truthOf_32 (by decide) ?_
          have h' := Option.some.inj h
          rw [← hQQ]
          exact W.lret (v := ((lK 3) (((a1 * (8 : Int32)) + a2)).toNatClampNeg)) hx hb hr (fun t ht hW => ⟨⟨((lK 3) (((a1 * (8 : Int32)) + a2)).toNatClampNeg), (), rfl, by rw [← h'], by rw [← hWQ, ht]; exact hP, va_K.moved hW.alike hK⟩, hS.F ht⟩) hS.2.2 dX2_truthOf_36
