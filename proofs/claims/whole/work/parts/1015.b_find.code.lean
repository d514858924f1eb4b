def f_B_find_3 (N : Nat) (ln : Nat) (la : Nat → Int64) (v1 : Int32) (v2 : Int64) : Nat → Int32 → Option Int32
  | 0, _ => none
  | n + 1, v4 => if v1 ≤ v4 then (some (-1 : Int32)) else (if (Int32.ofNat ln) ≤ v4 then (some (-1 : Int32)) else (if v4 < 0 ∨ ln ≤ v4.toNatClampNeg then none else (if (la v4.toNatClampNeg) = v2 then (some v4) else (f_B_find_3 N ln la v1 v2 n ((v4 + (1 : Int32)))))))
def f_B_find (N : Nat) (ln : Nat) (a1 : Int32) (a2 : Int64) (la : Nat → Int64) : Option Int32 := f_B_find_3 N ln la a1 a2 N ((0 : Int32))
set_option maxHeartbeats 8000000 in
set_option maxRecDepth 100000 in
theorem c_B_find (l : Launch) (dC : Nat → ClassId) (dI : Nat → Nat → Nat) (cy : Nat → ClassId) (ad : Nat → Nat) (sz : Nat) (N : Nat) (ln : Nat) (a1 : Int32) (a2 : Int64) (la : Nat → Int64) (q : Int32) (h : f_B_find N ln a1 a2 la = some q) : Met l yX0_find wsX0_find ({ frames := 0, cells := 0, slots := 0, locals := 0 } : Room) (cP (dC, dI) cy [.ref (ad 0), .int a1, .long a2] (zzA ad cy ln la) sz) (cQi (dC, dI) cy q (zzA ad cy ln la) (va_A (zzA ad cy ln la) sz)) 0 0 (va_A (zzA ad cy ln la) sz) := by
  refine Met.ofW (cc := cX0_find) (maxL := 5) (ret := (some .int)) (by decide) rfl ?_
  intro p e s m args below meth c s₁ B hml hv
  obtain ⟨hav, hsz, hP, hK, hD0, hN⟩ := hv
  have hx := B.exec
  have hb := B.bytes
  have hr := B.returns
  have hts := atoms_spec (ws := wsX0_find) B.pre
  have hown : s.vm.findClass RX0 = some m.cls := findClass_of_methodNamed B.named
  have hlocks := B.notSynchronized
  subst hsz
  have hD := hD0.self (sz := s.heap.size)
  generalize hAe : va_A (zzA ad cy ln la) s.heap.size = A at hD ⊢
  have hA : ∀ q : Nat, s.heap.size ≤ q → A q := fun q h => by rw [← hAe]; exact Or.inr h
  have hS : va_S A s.heap s.heap [] := va_S.rf
  generalize hWQ : (zzA ad cy ln la) = WQ
  generalize hQQ : MQ below (cQi (dC, dI) cy q WQ A) args s 0 0 A = QQ
  have hl := lv_entry ([.ref (ad 0), .int a1, .long a2] : List Value) (n := 5) (Nat.le_of_ble_eq_true rfl)
  have hfr := lg_entry_eq m ([.ref (ad 0), .int a1, .long a2] : List Value) 5
  rw [← hav] at hfr
  rw [hfr]
  clear hfr hav
  generalize (lg_sl ([.ref (ad 0), .int a1, .long a2] : List Value) ++ List.replicate (5 - (lg_sl ([.ref (ad 0), .int a1, .long a2] : List Value)).length) Slot.unset).toArray = ls at hl ⊢
  have hl : lv_has ls 5 [(0, .ref (ad 0)), (1, .int a1), (2, .long a2)] := hl
  refine (?_ : ∀ (H : Heap) (locs : List Loc), va_P (dC, dI) vwCl (zzA ad cy ln la) H → va_D A (zzA ad cy ln la) → va_S A s.heap H locs → W p l e ({ frames := 0, cells := 0, slots := 0, locals := 0 } : Room) s m args below meth c H locs 0 0 QQ (F0 m 0 ls [])) s.heap [] hP hD hS
  clear hP hD hS
  have B3 : ∀ (n : Nat) (v1 : Int32) (v2 : Int64) (v4 : Int32) (H : Heap) (locs : List Loc) (ls : Array Slot), f_B_find_3 N ln la v1 v2 n v4 = some q → va_P (dC, dI) vwCl (zzA ad cy ln la) H → va_D A (zzA ad cy ln la) → va_S A s.heap H locs → lv_has ls 5 [(0, .ref (ad 0)), (1, .int v1), (2, .long v2), (4, .int v4)] → W p l e ({ frames := 0, cells := 0, slots := 0, locals := 0 } : Room) s m args below meth c H locs 0 0 QQ (F0 m 3 ls []) := by
    intro n
    induction n with
    | zero =>
      intro v1 v2 v4 H locs ls h hP hD hS hl
      rw [f_B_find_3] at h
      cases h
    | succ n ih =>
      intro v1 v2 v4 H locs ls h hP hD hS hl
      rw [f_B_find_3] at h
      refine lv_iload hx hb dX0_find_3 (lv_at hl 3 rfl) ?_
      refine lv_iload_n hx hb dX0_find_5 rfl (lv_at hl 1 rfl) ?_
      refine lv_icmp_ge (tgt := 34) hx hb dX0_find_6 (by decide) (fun cz => ?_) (fun cz => ?_)
      · have h := g_t h cz
        refine lv_iconst (v := (-1)) hx hb dX0_find_34 (by decide) ?_
        have h' := Option.some.inj h
        rw [← hQQ]
        exact W.iret (v := (-1 : Int32)) hx hb hr (fun t ht hW => ⟨⟨(-1 : Int32), (), rfl, by rw [← h'], by rw [← hWQ, ht]; exact hP, va_K.moved hW.alike hK⟩, hS.F ht⟩) hS.2.2 dX0_find_35
      · have h := g_f h cz
        refine lv_iload hx hb dX0_find_9 (lv_at hl 3 rfl) ?_
        refine lv_aload_n hx hb dX0_find_11 rfl (lv_at hl 0 rfl) ?_
        refine va_alen (v := (Int32.ofNat ln)) hx hb hK hP 0 2 rfl rfl rfl dX0_find_12 ?_
        refine lv_icmp_ge (tgt := 34) hx hb dX0_find_13 (by decide) (fun cz => ?_) (fun cz => ?_)
        · have h := g_t h cz
          refine lv_iconst (v := (-1)) hx hb dX0_find_34 (by decide) ?_
          have h' := Option.some.inj h
          rw [← hQQ]
          exact W.iret (v := (-1 : Int32)) hx hb hr (fun t ht hW => ⟨⟨(-1 : Int32), (), rfl, by rw [← h'], by rw [← hWQ, ht]; exact hP, va_K.moved hW.alike hK⟩, hS.F ht⟩) hS.2.2 dX0_find_35
        · have h := g_f h cz
          refine lv_aload_n hx hb dX0_find_16 rfl (lv_at hl 0 rfl) ?_
          refine lv_iload hx hb dX0_find_17 (lv_at hl 3 rfl) ?_
          obtain ⟨g_6, h⟩ := g_n h
          refine va_lald (f := la) hx hb hK hP 0 2 rfl rfl g_6 dX0_find_19 ?_
          refine lv_lload_n hx hb dX0_find_20 rfl (lv_at hl 2 rfl) ?_
          refine W.lcmp hx hb dX0_find_21 ?_
          refine lv_if_ne (tgt := 28) hx hb dX0_find_22 (by decide) (fun cz => ?_) (fun cz => ?_)
          · have h := g_f h (fun z => cz (lg_cmp0.mpr z))
            refine lv_iinc (v := (v4 + (1 : Int32))) (lv' := [(4, .int ((v4 + (1 : Int32)))), (0, .ref (ad 0)), (1, .int v1), (2, .long v2)]) hx hb dX0_find_28 hl (k := 3) rfl rfl (by decide) rfl (fun ls hl => ?_)
            refine lv_goto (tgt := 3) hx hb dX0_find_31 (by decide) ?_
            exact ih v1 v2 ((v4 + (1 : Int32))) H locs ls h hP hD hS (lv_sub hl [1, 2, 3, 0] rfl)
          · have h := g_t h (lg_cmp0.mp cz)
            refine lv_iload hx hb dX0_find_25 (lv_at hl 3 rfl) ?_
            have h' := Option.some.inj h
            rw [← hQQ]
            exact W.iret (v := v4) hx hb hr (fun t ht hW => ⟨⟨v4, (), rfl, by rw [← h'], by rw [← hWQ, ht]; exact hP, va_K.moved hW.alike hK⟩, hS.F ht⟩) hS.2.2 dX0_find_27
  intro H locs hP hD hS
  unfold f_B_find at h
  refine lv_iconst (v := 0) hx hb dX0_find_0 (by decide) ?_
  refine lv_istore (lv' := [(4, .int ((0 : Int32))), (0, .ref (ad 0)), (1, .int a1), (2, .long a2)]) hx hb dX0_find_1 hl (by decide) rfl (fun ls hl => ?_)
  exact B3 N a1 a2 ((0 : Int32)) H locs ls h hP hD hS (lv_sub hl [1, 2, 3, 0] rfl)
