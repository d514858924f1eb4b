def f_C_find_3 (N : Nat) (iC4 : Int32) (aC0 : Nat → Int32) (aC1 : Nat → Int32) (aC2 : Nat → Int32) (v1 : Int32) (v2 : Int32) (v3 : Int32) : Nat → Int32 → Option Int32
  | 0, _ => none
  | n + 1, v4 => if iC4 ≤ v4 then (some (-1 : Int32)) else (if v4 < 0 ∨ 200 ≤ v4.toNatClampNeg then none else (if (aC0 v4.toNatClampNeg) = v1 then (if (aC1 v4.toNatClampNeg) = v2 then (if (aC2 v4.toNatClampNeg) = v3 then (some v4) else (f_C_find_3 N iC4 aC0 aC1 aC2 v1 v2 v3 n ((v4 + (1 : Int32))))) else (f_C_find_3 N iC4 aC0 aC1 aC2 v1 v2 v3 n ((v4 + (1 : Int32))))) else (f_C_find_3 N iC4 aC0 aC1 aC2 v1 v2 v3 n ((v4 + (1 : Int32))))))
def f_C_find (N : Nat) (a1 : Int32) (a2 : Int32) (a3 : Int32) (iC4 : Int32) (aC0 : Nat → Int32) (aC1 : Nat → Int32) (aC2 : Nat → Int32) : Option Int32 := f_C_find_3 N iC4 aC0 aC1 aC2 a1 a2 a3 N ((0 : Int32))
set_option maxHeartbeats 8000000 in
set_option maxRecDepth 100000 in
theorem c_C_find (l : Launch) (dC : Nat → ClassId) (dI : Nat → Nat → Nat) (cy : Nat → ClassId) (ad : Nat → Nat) (sz : Nat) (N : Nat) (a1 : Int32) (a2 : Int32) (a3 : Int32) (iC : Nat → Int32) (aC : Nat → Nat → Int32) (q : Int32) (h : f_C_find N a1 a2 a3 (iC 4) (aC 0) (aC 1) (aC 2) = some q) : Met l yX1_find wsX1_find ({ frames := 0, cells := 0, slots := 0, locals := 0 } : Room) (cP (dC, dI) cy [.ref (ad 0), .int a1, .int a2, .int a3] (zzC ad cy iC aC) sz) (cQi (dC, dI) cy q (zzC ad cy iC aC) (va_A (zzC ad cy iC aC) sz)) 0 0 (va_A (zzC ad cy iC aC) sz) := by
  refine Met.ofW (cc := cX1_find) (maxL := 5) (ret := (some .int)) (by decide) rfl ?_
  intro p e s m args below meth c s₁ B hml hv
  obtain ⟨hav, hsz, hP, hK, hD0, hN⟩ := hv
  have hx := B.exec
  have hb := B.bytes
  have hr := B.returns
  have hts := atoms_spec (ws := wsX1_find) B.pre
  have hown : s.vm.findClass RX1 = some m.cls := findClass_of_methodNamed B.named
  have hlocks := B.notSynchronized
  subst hsz
  have hD := hD0.self (sz := s.heap.size)
  generalize hAe : va_A (zzC ad cy iC aC) s.heap.size = A at hD ⊢
  have hA : ∀ q : Nat, s.heap.size ≤ q → A q := fun q h => by rw [← hAe]; exact Or.inr h
  have hS : va_S A s.heap s.heap [] := va_S.rf
  generalize hWQ : (zzC ad cy iC aC) = WQ
  generalize hQQ : MQ below (cQi (dC, dI) cy q WQ A) args s 0 0 A = QQ
  have hl := lv_entry ([.ref (ad 0), .int a1, .int a2, .int a3] : List Value) (n := 5) (Nat.le_of_ble_eq_true rfl)
  have hfr := lg_entry_eq m ([.ref (ad 0), .int a1, .int a2, .int a3] : List Value) 5
  rw [← hav] at hfr
  rw [hfr]
  clear hfr hav
  generalize (lg_sl ([.ref (ad 0), .int a1, .int a2, .int a3] : List Value) ++ List.replicate (5 - (lg_sl ([.ref (ad 0), .int a1, .int a2, .int a3] : List Value)).length) Slot.unset).toArray = ls at hl ⊢
  have hl : lv_has ls 5 [(0, .ref (ad 0)), (1, .int a1), (2, .int a2), (3, .int a3)] := hl
  have kf36 := hts _ (List.mem_cons_of_mem _ m_fl_X1_36)
  have ki1 := (fun w h => List.mem_cons_of_mem _ (i_X1 w h) : ∀ w ∈ u_ws RX1 TX1 10, w ∈ wsX1_find)
  have kf9 := hts _ (List.mem_cons_of_mem _ m_fl_X1_9)
  have kf15 := hts _ (List.mem_cons_of_mem _ m_fl_X1_15)
  have kf18 := hts _ (List.mem_cons_of_mem _ m_fl_X1_18)
  refine (?_ : ∀ (H : Heap) (locs : List Loc), va_P (dC, dI) vwCl (zzC ad cy iC aC) H → va_D A (zzC ad cy iC aC) → va_S A s.heap H locs → W p l e ({ frames := 0, cells := 0, slots := 0, locals := 0 } : Room) s m args below meth c H locs 0 0 QQ (F0 m 0 ls [])) s.heap [] hP hD hS
  clear hP hD hS
  have B3 : ∀ (n : Nat) (v1 : Int32) (v2 : Int32) (v3 : Int32) (v4 : Int32) (H : Heap) (locs : List Loc) (ls : Array Slot), f_C_find_3 N (iC 4) (aC 0) (aC 1) (aC 2) v1 v2 v3 n v4 = some q → va_P (dC, dI) vwCl (zzC ad cy iC aC) H → va_D A (zzC ad cy iC aC) → va_S A s.heap H locs → lv_has ls 5 [(0, .ref (ad 0)), (1, .int v1), (2, .int v2), (3, .int v3), (4, .int v4)] → W p l e ({ frames := 0, cells := 0, slots := 0, locals := 0 } : Room) s m args below meth c H locs 0 0 QQ (F0 m 3 ls []) := by
    intro n
    induction n with
    | zero =>
      intro v1 v2 v3 v4 H locs ls h hP hD hS hl
      rw [f_C_find_3] at h
      cases h
    | succ n ih =>
      intro v1 v2 v3 v4 H locs ls h hP hD hS hl
      rw [f_C_find_3] at h
      refine lv_iload hx hb dX1_find_3 (lv_at hl 4 rfl) ?_
      refine lv_aload_n hx hb dX1_find_5 rfl (lv_at hl 0 rfl) ?_
      refine va_get (D := (dC, dI)) (ci := 1) (v := .int (iC 4)) (C := RX1) (T := TX1) (N := 10) hx hb hts ki1 hown hK hP 0 rfl rfl 4 (by decide) kf36 (fun _ h9 => h9) rfl dX1_find_6 ?_
      refine lv_icmp_ge (tgt := 54) hx hb dX1_find_9 (by decide) (fun cz => ?_) (fun cz => ?_)
      · have h := g_t h cz
        refine lv_iconst (v := (-1)) hx hb dX1_find_54 (by decide) ?_
        have h' := Option.some.inj h
        rw [← hQQ]
        exact W.iret (v := (-1 : Int32)) hx hb hr (fun t ht hW => ⟨⟨(-1 : Int32), (), rfl, by rw [← h'], by rw [← hWQ, ht]; exact hP, va_K.moved hW.alike hK⟩, hS.F ht⟩) hS.2.2 dX1_find_55
      · have h := g_f h cz
        refine lv_aload_n hx hb dX1_find_12 rfl (lv_at hl 0 rfl) ?_
        refine va_get (D := (dC, dI)) (ci := 1) (v := .ref (ad 1)) (C := RX1) (T := TX1) (N := 10) hx hb hts ki1 hown hK hP 0 rfl rfl 0 (by decide) kf9 (fun _ h9 => h9) rfl dX1_find_13 ?_
        refine lv_iload hx hb dX1_find_16 (lv_at hl 4 rfl) ?_
        obtain ⟨g_8, h⟩ := g_n h
        refine va_iald (f := (aC 0)) hx hb hK hP 1 0 rfl rfl g_8 dX1_find_18 ?_
        refine lv_iload_n hx hb dX1_find_19 rfl (lv_at hl 1 rfl) ?_
        refine lv_icmp_ne (tgt := 48) hx hb dX1_find_20 (by decide) (fun cz => ?_) (fun cz => ?_)
        · have h := g_f h cz
          refine lv_iinc (v := (v4 + (1 : Int32))) (lv' := [(4, .int ((v4 + (1 : Int32)))), (0, .ref (ad 0)), (1, .int v1), (2, .int v2), (3, .int v3)]) hx hb dX1_find_48 hl (k := 4) rfl rfl (by decide) rfl (fun ls hl => ?_)
          refine lv_goto (tgt := 3) hx hb dX1_find_51 (by decide) ?_
          exact ih v1 v2 v3 ((v4 + (1 : Int32))) H locs ls h hP hD hS (lv_sub hl [1, 2, 3, 4, 0] rfl)
        · have h := g_t h cz
          refine lv_aload_n hx hb dX1_find_23 rfl (lv_at hl 0 rfl) ?_
          refine va_get (D := (dC, dI)) (ci := 1) (v := .ref (ad 2)) (C := RX1) (T := TX1) (N := 10) hx hb hts ki1 hown hK hP 0 rfl rfl 1 (by decide) kf15 (fun _ h9 => h9) rfl dX1_find_24 ?_
          refine lv_iload hx hb dX1_find_27 (lv_at hl 4 rfl) ?_
          refine va_iald (f := (aC 1)) hx hb hK hP 2 0 rfl rfl g_8 dX1_find_29 ?_
          refine lv_iload_n hx hb dX1_find_30 rfl (lv_at hl 2 rfl) ?_
          refine lv_icmp_ne (tgt := 48) hx hb dX1_find_31 (by decide) (fun cz => ?_) (fun cz => ?_)
          · have h := g_f h cz
            refine lv_iinc (v := (v4 + (1 : Int32))) (lv' := [(4, .int ((v4 + (1 : Int32)))), (0, .ref (ad 0)), (1, .int v1), (2, .int v2), (3, .int v3)]) hx hb dX1_find_48 hl (k := 4) rfl rfl (by decide) rfl (fun ls hl => ?_)
            refine lv_goto (tgt := 3) hx hb dX1_find_51 (by decide) ?_
            exact ih v1 v2 v3 ((v4 + (1 : Int32))) H locs ls h hP hD hS (lv_sub hl [1, 2, 3, 4, 0] rfl)
          · have h := g_t h cz
            refine lv_aload_n hx hb dX1_find_34 rfl (lv_at hl 0 rfl) ?_
            refine va_get (D := (dC, dI)) (ci := 1) (v := .ref (ad 3)) (C := RX1) (T := TX1) (N := 10) hx hb hts ki1 hown hK hP 0 rfl rfl 2 (by decide) kf18 (fun _ h9 => h9) rfl dX1_find_35 ?_
            refine lv_iload hx hb dX1_find_38 (lv_at hl 4 rfl) ?_
            refine va_iald (f := (aC 2)) hx hb hK hP 3 0 rfl rfl g_8 dX1_find_40 ?_
            refine lv_iload_n hx hb dX1_find_41 rfl (lv_at hl 3 rfl) ?_
            refine lv_icmp_ne (tgt := 48) hx hb dX1_find_42 (by decide) (fun cz => ?_) (fun cz => ?_)
            · have h := g_f h cz
              refine lv_iinc (v := (v4 + (1 : Int32))) (lv' := [(4, .int ((v4 + (1 : Int32)))), (0, .ref (ad 0)), (1, .int v1), (2, .int v2), (3, .int v3)]) hx hb dX1_find_48 hl (k := 4) rfl rfl (by decide) rfl (fun ls hl => ?_)
              refine lv_goto (tgt := 3) hx hb dX1_find_51 (by decide) ?_
              exact ih v1 v2 v3 ((v4 + (1 : Int32))) H locs ls h hP hD hS (lv_sub hl [1, 2, 3, 4, 0] rfl)
            · have h := g_t h cz
              refine lv_iload hx hb dX1_find_45 (lv_at hl 4 rfl) ?_
              have h' := Option.some.inj h
              rw [← hQQ]
              exact W.iret (v := v4) hx hb hr (fun t ht hW => ⟨⟨v4, (), rfl, by rw [← h'], by rw [← hWQ, ht]; exact hP, va_K.moved hW.alike hK⟩, hS.F ht⟩) hS.2.2 dX1_find_47
  intro H locs hP hD hS
  unfold f_C_find at h
  refine lv_iconst (v := 0) hx hb dX1_find_0 (by decide) ?_
  refine lv_istore (lv' := [(4, .int ((0 : Int32))), (0, .ref (ad 0)), (1, .int a1), (2, .int a2), (3, .int a3)]) hx hb dX1_find_1 hl (by decide) rfl (fun ls hl => ?_)
  exact B3 N a1 a2 a3 ((0 : Int32)) H locs ls h hP hD hS (lv_sub hl [1, 2, 3, 4, 0] rfl)
