def f_K_rankOf (a1 : Int32) (aK13 : Nat → Int32) : Option Int32 := if a1 < 0 then (some (-1 : Int32)) else (if (512 : Int32) ≤ a1 then (some (-1 : Int32)) else (if a1 < 0 ∨ 512 ≤ a1.toNatClampNeg then none else (some (aK13 a1.toNatClampNeg))))
set_option maxHeartbeats 8000000 in
set_option maxRecDepth 100000 in
theorem c_K_rankOf (l : Launch) (dC : Nat → ClassId) (dI : Nat → Nat → Nat) (cy : Nat → ClassId) (ad : Nat → Nat) (sz : Nat) (a1 : Int32) (iK : Nat → Int32) (lK : Nat → Nat → Int64) (aK : Nat → Nat → Int32) (iB : Nat → Int32) (lB : Nat → Nat → Int64) (aB : Nat → Nat → Int32) (iC : Nat → Int32) (aC : Nat → Nat → Int32) (q : Int32) (h : f_K_rankOf a1 (aK 13) = some q) : Met l yX2_rankOf wsX2_rankOf ({ frames := 0, cells := 0, slots := 0, locals := 0 } : Room) (cP (dC, dI) cy [.ref (ad 0), .int a1] (zzK ad cy (ad 11) (ad 18) iK lK aK iB lB aB iC aC) sz) (cQi (dC, dI) cy q (zzK ad cy (ad 11) (ad 18) iK lK aK iB lB aB iC aC) (va_A (zzK ad cy (ad 11) (ad 18) iK lK aK iB lB aB iC aC) sz)) 0 0 (va_A (zzK ad cy (ad 11) (ad 18) iK lK aK iB lB aB iC aC) sz) := by
  refine Met.ofW (cc := cX2_rankOf) (maxL := 2) (ret := (some .int)) (by decide) rfl ?_
  intro p e s m args below meth c s₁ B hml hv
  obtain ⟨hav, hsz, hP, hK, hD0, hN⟩ := hv
  have hx := B.exec
  have hb := B.bytes
  have hr := B.returns
  have hts := atoms_spec (ws := wsX2_rankOf) B.pre
  have hown : s.vm.findClass RX2 = some m.cls := findClass_of_methodNamed B.named
  have hlocks := B.notSynchronized
  subst hsz
  have hD := hD0.self (sz := s.heap.size)
  generalize hAe : va_A (zzK ad cy (ad 11) (ad 18) iK lK aK iB lB aB iC aC) s.heap.size = A at hD ⊢
  have hA : ∀ q : Nat, s.heap.size ≤ q → A q := fun q h => by rw [← hAe]; exact Or.inr h
  have hS : va_S A s.heap s.heap [] := va_S.rf
  generalize hWQ : (zzK ad cy (ad 11) (ad 18) iK lK aK iB lB aB iC aC) = WQ
  generalize hQQ : MQ below (cQi (dC, dI) cy q WQ A) args s 0 0 A = QQ
  have hl := lv_entry ([.ref (ad 0), .int a1] : List Value) (n := 2) (Nat.le_of_ble_eq_true rfl)
  have hfr := lg_entry_eq m ([.ref (ad 0), .int a1] : List Value) 2
  rw [← hav] at hfr
  rw [hfr]
  clear hfr hav
  generalize (lg_sl ([.ref (ad 0), .int a1] : List Value) ++ List.replicate (2 - (lg_sl ([.ref (ad 0), .int a1] : List Value)).length) Slot.unset).toArray = ls at hl ⊢
  have hl : lv_has ls 2 [(0, .ref (ad 0)), (1, .int a1)] := hl
  have kf40 := hts _ (List.mem_cons_of_mem _ m_fl_X2_40)
  have ki2 := (fun w h => List.mem_cons_of_mem _ (i_X2 w h) : ∀ w ∈ u_ws RX2 TX2 15, w ∈ wsX2_rankOf)
  refine (?_ : ∀ (H : Heap) (locs : List Loc), va_P (dC, dI) vwCl (zzK ad cy (ad 11) (ad 18) iK lK aK iB lB aB iC aC) H → va_D A (zzK ad cy (ad 11) (ad 18) iK lK aK iB lB aB iC aC) → va_S A s.heap H locs → W p l e ({ frames := 0, cells := 0, slots := 0, locals := 0 } : Room) s m args below meth c H locs 0 0 QQ (F0 m 0 ls [])) s.heap [] hP hD hS
  clear hP hD hS
  intro H locs hP hD hS
  unfold f_K_rankOf at h
  refine lv_iload_n hx hb dX2_rankOf_0 rfl (lv_at hl 1 rfl) ?_
  refine lv_if_lt (tgt := 20) hx hb dX2_rankOf_1 (by decide) (fun cz => ?_) (fun cz => ?_)
  · have h := g_t h cz
    refine lv_iconst (v := (-1)) hx hb dX2_rankOf_20 (by decide) ?_
    have h' := Option.some.inj h
    rw [← hQQ]
    exact W.iret (v := (-1 : Int32)) hx hb hr (fun t ht hW => ⟨⟨(-1 : Int32), (), rfl, by rw [← h'], by rw [← hWQ, ht]; exact hP, va_K.moved hW.alike hK⟩, hS.F ht⟩) hS.2.2 dX2_rankOf_21
  · have h := g_f h cz
    refine lv_iload_n hx hb dX2_rankOf_4 rfl (lv_at hl 1 rfl) ?_
    refine lv_sipush (v := 512) hx hb dX2_rankOf_5 (by decide) ?_
    refine lv_icmp_ge (tgt := 20) hx hb dX2_rankOf_8 (by decide) (fun cz => ?_) (fun cz => ?_)
    · have h := g_t h cz
      refine lv_iconst (v := (-1)) hx hb dX2_rankOf_20 (by decide) ?_
      have h' := Option.some.inj h
      rw [← hQQ]
      exact W.iret (v := (-1 : Int32)) hx hb hr (fun t ht hW => ⟨⟨(-1 : Int32), (), rfl, by rw [← h'], by rw [← hWQ, ht]; exact hP, va_K.moved hW.alike hK⟩, hS.F ht⟩) hS.2.2 dX2_rankOf_21
    · have h := g_f h cz
      refine lv_aload_n hx hb dX2_rankOf_11 rfl (lv_at hl 0 rfl) ?_
      refine va_get (D := (dC, dI)) (ci := 2) (v := .ref (ad 10)) (C := RX2) (T := TX2) (N := 15) hx hb hts ki2 hown hK hP 0 rfl rfl 13 (by decide) kf40 (fun _ h9 => h9) rfl dX2_rankOf_12 ?_
      refine lv_iload_n hx hb dX2_rankOf_15 rfl (lv_at hl 1 rfl) ?_
      obtain ⟨g_34, h⟩ := g_n h
      refine va_sald (f := (aK 13)) hx hb hK hP 10 3 rfl rfl g_34 dX2_rankOf_16 ?_
      refine lv_goto (tgt := 21) hx hb dX2_rankOf_17 (by decide) ?_
      have h' := Option.some.inj h
      rw [← hQQ]
      exact W.iret (v := ((aK 13) a1.toNatClampNeg)) hx hb hr (fun t ht hW => ⟨⟨((aK 13) a1.toNatClampNeg), (), rfl, by rw [← h'], by rw [← hWQ, ht]; exact hP, va_K.moved hW.alike hK⟩, hS.F ht⟩) hS.2.2 dX2_rankOf_21
