def f_K_has (ln : Nat) (a1 : Int32) (la : Nat → Int64) : Option Int32 := if (a1 >>> ((6 : Int32) &&& 31)) < 0 then (some (0 : Int32)) else (if (Int32.ofNat ln) ≤ (a1 >>> ((6 : Int32) &&& 31)) then (some (0 : Int32)) else (if (a1 >>> ((6 : Int32) &&& 31)) < 0 ∨ ln ≤ ((a1 >>> ((6 : Int32) &&& 31))).toNatClampNeg then none else (if (((la ((a1 >>> ((6 : Int32) &&& 31))).toNatClampNeg) >>> ((a1).toInt64 &&& 63)) &&& (1 : Int64)) = (1 : Int64) then (some (1 : Int32)) else (some (0 : Int32)))))
set_option maxHeartbeats 8000000 in
set_option maxRecDepth 100000 in
theorem c_K_has (l : Launch) (dC : Nat → ClassId) (dI : Nat → Nat → Nat) (cy : Nat → ClassId) (ad : Nat → Nat) (sz : Nat) (ln : Nat) (a1 : Int32) (la : Nat → Int64) (q : Int32) (h : f_K_has ln a1 la = some q) : Met l yX2_has wsX2_has ({ frames := 0, cells := 0, slots := 0, locals := 0 } : Room) (cP (dC, dI) cy [.ref (ad 0), .int a1] (zzA ad cy ln la) sz) (cQi (dC, dI) cy q (zzA ad cy ln la) (va_A (zzA ad cy ln la) sz)) 0 0 (va_A (zzA ad cy ln la) sz) := by
  refine Met.ofW (cc := cX2_has) (maxL := 3) (ret := (some .boolean)) (by decide) rfl ?_
  intro p e s m args below meth c s₁ B hml hv
  obtain ⟨hav, hsz, hP, hK, hD0, hN⟩ := hv
  have hx := B.exec
  have hb := B.bytes
  have hr := B.returns
  have hts := atoms_spec (ws := wsX2_has) B.pre
  have hown : s.vm.findClass RX2 = some m.cls := findClass_of_methodNamed B.named
  have hlocks := B.notSynchronized
  subst hsz
  have hD := hD0.self (sz := s.heap.size)
  generalize hAe : va_A (zzA ad cy ln la) s.heap.size = A at hD ⊢
  have hA : ∀ q : Nat, s.heap.size ≤ q → A q := fun q h => by rw [← hAe]; exact Or.inr h
  have hS : va_S A s.heap s.heap [] := va_S.rf
  generalize hWQ : (zzA ad cy ln la) = WQ
  generalize hQQ : MQ below (cQi (dC, dI) cy q WQ A) args s 0 0 A = QQ
  have hl := lv_entry ([.ref (ad 0), .int a1] : List Value) (n := 3) (Nat.le_of_ble_eq_true rfl)
  have hfr := lg_entry_eq m ([.ref (ad 0), .int a1] : List Value) 3
  rw [← hav] at hfr
  rw [hfr]
  clear hfr hav
  generalize (lg_sl ([.ref (ad 0), .int a1] : List Value) ++ List.replicate (3 - (lg_sl ([.ref (ad 0), .int a1] : List Value)).length) Slot.unset).toArray = ls at hl ⊢
  have hl : lv_has ls 3 [(0, .ref (ad 0)), (1, .int a1)] := hl
  refine (?_ : ∀ (H : Heap) (locs : List Loc), va_P (dC, dI) vwCl (zzA ad cy ln la) H → va_D A (zzA ad cy ln la) → va_S A s.heap H locs → W p l e ({ frames := 0, cells := 0, slots := 0, locals := 0 } : Room) s m args below meth c H locs 0 0 QQ (F0 m 0 ls [])) s.heap [] hP hD hS
  clear hP hD hS
  intro H locs hP hD hS
  unfold f_K_has at h
  refine lv_iload_n hx hb dX2_has_0 rfl (lv_at hl 1 rfl) ?_
  refine lv_bipush (v := 6) hx hb dX2_has_1 (by decide) ?_
  refine lv_ishr hx hb dX2_has_3 ?_
  refine lv_istore_n (lv' := [(2, .int ((a1 >>> ((6 : Int32) &&& 31)))), (0, .ref (ad 0)), (1, .int a1)]) hx hb dX2_has_4 rfl hl (by decide) rfl (fun ls hl => ?_)
  refine lv_iload_n hx hb dX2_has_5 rfl (lv_at hl 0 rfl) ?_
  refine lv_if_lt (tgt := 31) hx hb dX2_has_6 (by decide) (fun cz => ?_) (fun cz => ?_)
  · have h := g_t h cz
    refine lv_iconst (v := 0) hx hb dX2_has_31 (by decide) ?_
    have h' := Option.some.inj h
    rw [← hQQ]
    exact W.zret (v := (0 : Int32)) hx hb hr rfl (fun t ht hW => ⟨⟨(0 : Int32), (), rfl, by rw [← h'], by rw [← hWQ, ht]; exact hP, va_K.moved hW.alike hK⟩, hS.F ht⟩) hS.2.2 dX2_has_32
  · have h := g_f h cz
    refine lv_iload_n hx hb dX2_has_9 rfl (lv_at hl 0 rfl) ?_
    refine lv_aload_n hx hb dX2_has_10 rfl (lv_at hl 1 rfl) ?_
    refine va_alen (v := (Int32.ofNat ln)) hx hb hK hP 0 2 rfl rfl rfl dX2_has_11 ?_
    refine lv_icmp_ge (tgt := 31) hx hb dX2_has_12 (by decide) (fun cz => ?_) (fun cz => ?_)
    · have h := g_t h cz
      refine lv_iconst (v := 0) hx hb dX2_has_31 (by decide) ?_
      have h' := Option.some.inj h
      rw [← hQQ]
      exact W.zret (v := (0 : Int32)) hx hb hr rfl (fun t ht hW => ⟨⟨(0 : Int32), (), rfl, by rw [← h'], by rw [← hWQ, ht]; exact hP, va_K.moved hW.alike hK⟩, hS.F ht⟩) hS.2.2 dX2_has_32
    · have h := g_f h cz
      refine lv_aload_n hx hb dX2_has_15 rfl (lv_at hl 1 rfl) ?_
      refine lv_iload_n hx hb dX2_has_16 rfl (lv_at hl 0 rfl) ?_
      obtain ⟨g_23, h⟩ := g_n h
      refine va_lald (f := la) hx hb hK hP 0 2 rfl rfl g_23 dX2_has_17 ?_
      refine lv_iload_n hx hb dX2_has_18 rfl (lv_at hl 2 rfl) ?_
      refine lv_lshr (v := ((la ((a1 >>> ((6 : Int32) &&& 31))).toNatClampNeg) >>> ((a1).toInt64 &&& 63))) hx hb dX2_has_19 rfl ?_
      refine lv_lconst (v := 1) hx hb dX2_has_20 (by decide) ?_
      refine lv_land hx hb dX2_has_21 ?_
      refine lv_lconst (v := 1) hx hb dX2_has_22 (by decide) ?_
      refine W.lcmp hx hb dX2_has_23 ?_
      refine lv_if_ne (tgt := 31) hx hb dX2_has_24 (by decide) (fun cz => ?_) (fun cz => ?_)
      · have h := g_f h (fun z => cz (lg_cmp0.mpr z))
        refine lv_iconst (v := 0) hx hb dX2_has_31 (by decide) ?_
        have h' := Option.some.inj h
        rw [← hQQ]
        exact W.zret (v := (0 : Int32)) hx hb hr rfl (fun t ht hW => ⟨⟨(0 : Int32), (), rfl, by rw [← h'], by rw [← hWQ, ht]; exact hP, va_K.moved hW.alike hK⟩, hS.F ht⟩) hS.2.2 dX2_has_32
      · have h := g_t h (lg_cmp0.mp cz)
        refine lv_iconst (v := 1) hx hb dX2_has_27 (by decide) ?_
        refine lv_goto (tgt := 32) hx hb dX2_has_28 (by decide) ?_
        have h' := Option.some.inj h
        rw [← hQQ]
        exact W.zret (v := (1 : Int32)) hx hb hr rfl (fun t ht hW => ⟨⟨(1 : Int32), (), rfl, by rw [← h'], by rw [← hWQ, ht]; exact hP, va_K.moved hW.alike hK⟩, hS.F ht⟩) hS.2.2 dX2_has_32
