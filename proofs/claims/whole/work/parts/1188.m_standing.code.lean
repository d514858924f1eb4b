def f_M_standing_4 (N : Nat) (iM36 : Int32) (aM62 : Nat → Int32)  : Nat → Int32 → Int32 → Option Int32
  | 0, _, _ => none
  | n + 1, v1, v2 => (f_M_types iM36).bind fun q6 => (if q6 ≤ v2 then (some v1) else (if v2 < 0 ∨ 512 ≤ v2.toNatClampNeg then none else (if (aM62 v2.toNatClampNeg) = 0 then (f_M_standing_4 N iM36 aM62 n ((v1 + (0 : Int32))) ((v2 + (1 : Int32)))) else (f_M_standing_4 N iM36 aM62 n ((v1 + (1 : Int32))) ((v2 + (1 : Int32)))))))
def f_M_standing (N : Nat) (iM36 : Int32) (aM62 : Nat → Int32) : Option Int32 := f_M_standing_4 N iM36 aM62 N ((0 : Int32)) ((0 : Int32))
set_option maxHeartbeats 8000000 in
set_option maxRecDepth 100000 in
theorem c_M_standing (l : Launch) (dC : Nat → ClassId) (dI : Nat → Nat → Nat) (cy : Nat → ClassId) (ad : Nat → Nat) (sz : Nat) (N : Nat) (iM : Nat → Int32) (aM : Nat → Nat → Int32) (q : Int32) (h : f_M_standing N (iM 36) (aM 62) = some q) : Met l yX8_standing wsX8_standing ({ frames := 1, cells := 0, slots := 0, locals := 20 } : Room) (cP (dC, dI) cy [.ref (ad 0)] (zzM ad cy iM aM) sz) (cQi (dC, dI) cy q (zzM ad cy iM aM) (va_A (zzM ad cy iM aM) sz)) 0 0 (va_A (zzM ad cy iM aM) sz) := by
  refine Met.ofW (cc := cX8_standing) (maxL := 3) (ret := (some .int)) (by decide) rfl ?_
  intro p e s m args below meth c s₁ B hml hv
  obtain ⟨hav, hsz, hP, hK, hD0, hN⟩ := hv
  have hx := B.exec
  have hb := B.bytes
  have hr := B.returns
  have hts := atoms_spec (ws := wsX8_standing) B.pre
  have hown : s.vm.findClass RX8 = some m.cls := findClass_of_methodNamed B.named
  have hlocks := B.notSynchronized
  subst hsz
  have hD := hD0.self (sz := s.heap.size)
  generalize hAe : va_A (zzM ad cy iM aM) s.heap.size = A at hD ⊢
  have hA : ∀ q : Nat, s.heap.size ≤ q → A q := fun q h => by rw [← hAe]; exact Or.inr h
  have hS : va_S A s.heap s.heap [] := va_S.rf
  generalize hWQ : (zzM ad cy iM aM) = WQ
  generalize hQQ : MQ below (cQi (dC, dI) cy q WQ A) args s 0 0 A = QQ
  have hl := lv_entry ([.ref (ad 0)] : List Value) (n := 3) (Nat.le_of_ble_eq_true rfl)
  have hfr := lg_entry_eq m ([.ref (ad 0)] : List Value) 3
  rw [← hav] at hfr
  rw [hfr]
  clear hfr hav
  generalize (lg_sl ([.ref (ad 0)] : List Value) ++ List.replicate (3 - (lg_sl ([.ref (ad 0)] : List Value)).length) Slot.unset).toArray = ls at hl ⊢
  have hl : lv_has ls 3 [(0, .ref (ad 0))] := hl
  have kf117 := hts _ (List.mem_cons_of_mem _ m_fl_X8_117)
  have ki8 := (fun w h => List.mem_cons_of_mem _ (i_X8 w h) : ∀ w ∈ u_ws RX8 TX8 78, w ∈ wsX8_standing)
  refine (?_ : ∀ (H : Heap) (locs : List Loc), va_P (dC, dI) vwCl (zzM ad cy iM aM) H → va_D A (zzM ad cy iM aM) → va_S A s.heap H locs → W p l e ({ frames := 1, cells := 0, slots := 0, locals := 20 } : Room) s m args below meth c H locs 0 0 QQ (F0 m 0 ls [])) s.heap [] hP hD hS
  clear hP hD hS
  have B4 : ∀ (n : Nat) (v1 : Int32) (v2 : Int32) (H : Heap) (locs : List Loc) (ls : Array Slot), f_M_standing_4 N (iM 36) (aM 62) n v1 v2 = some q → va_P (dC, dI) vwCl (zzM ad cy iM aM) H → va_D A (zzM ad cy iM aM) → va_S A s.heap H locs → lv_has ls 3 [(0, .ref (ad 0)), (1, .int v1), (2, .int v2)] → W p l e ({ frames := 1, cells := 0, slots := 0, locals := 20 } : Room) s m args below meth c H locs 0 0 QQ (F0 m 4 ls []) := by
    intro n
    induction n with
    | zero =>
      intro v1 v2 H locs ls h hP hD hS hl
      rw [f_M_standing_4] at h
      cases h
    | succ n ih =>
      intro v1 v2 H locs ls h hP hD hS hl
      rw [f_M_standing_4] at h
      refine lv_iload_n hx hb dX8_standing_4 rfl (lv_at hl 2 rfl) ?_
      refine lv_aload_n hx hb dX8_standing_5 rfl (lv_at hl 0 rfl) ?_
      obtain ⟨q6, e6, h⟩ := g_b h
      refine callVis (cc := cX8_standing) (w1 := zzM ad cy iM aM) (As := []) (rest := [.int v2]) ⟨hx, hb, hml, hown, hts⟩ (c_M_types l dC dI cy ad H.size iM aM q6 e6) (cwV 0 hts (goodV m_ml_X8_368 m_im_X8_types m_se_X8_types m_in_X8 m_cd_X8_types) rfl rfl rfl (by decide +kernel) ⟨Nat.le_of_ble_eq_true rfl, Nat.le_of_ble_eq_true rfl⟩) hN hK hP hD hS hA rfl 0 rfl rfl rfl hl.1 rfl (Nat.le_of_ble_eq_true rfl) dX8_standing_6 ⟨Nat.zero_le _, Nat.zero_le _⟩ (fun H locs hP hD hS => ?_)
      refine lv_icmp_ge (tgt := 35) hx hb dX8_standing_9 (by decide) (fun cz => ?_) (fun cz => ?_)
      · have h := g_t h cz
        refine lv_iload_n hx hb dX8_standing_35 rfl (lv_at hl 1 rfl) ?_
        have h' := Option.some.inj h
        rw [← hQQ]
        exact W.iret (v := v1) hx hb hr (fun t ht hW => ⟨⟨v1, (), rfl, by rw [← h'], by rw [← hWQ, ht]; exact hP, va_K.moved hW.alike hK⟩, hS.F ht⟩) hS.2.2 dX8_standing_36
      · have h := g_f h cz
        refine lv_iload_n hx hb dX8_standing_12 rfl (lv_at hl 1 rfl) ?_
        refine lv_aload_n hx hb dX8_standing_13 rfl (lv_at hl 0 rfl) ?_
        refine va_get (D := (dC, dI)) (ci := 8) (v := .ref (ad 34)) (C := RX8) (T := TX8) (N := 78) hx hb hts ki8 hown hK hP 0 rfl rfl 62 (by decide) kf117 (fun _ h9 => h9) rfl dX8_standing_14 ?_
        refine lv_iload_n hx hb dX8_standing_17 rfl (lv_at hl 2 rfl) ?_
        obtain ⟨g_129, h⟩ := g_n h
        refine va_zald (f := (aM 62)) hx hb hK hP 34 4 rfl rfl g_129 dX8_standing_18 ?_
        refine lv_if_eq (tgt := 26) hx hb dX8_standing_19 (by decide) (fun cz => ?_) (fun cz => ?_)
        · have h := g_t h cz
          refine lv_iconst (v := 0) hx hb dX8_standing_26 (by decide) ?_
          refine lv_iadd hx hb dX8_standing_27 ?_
          refine lv_istore_n (lv' := [(1, .int ((v1 + (0 : Int32)))), (0, .ref (ad 0)), (2, .int v2)]) hx hb dX8_standing_28 rfl hl (by decide) rfl (fun ls hl => ?_)
          refine lv_iinc (v := (v2 + (1 : Int32))) (lv' := [(2, .int ((v2 + (1 : Int32)))), (1, .int ((v1 + (0 : Int32)))), (0, .ref (ad 0))]) hx hb dX8_standing_29 hl (k := 2) rfl rfl (by decide) rfl (fun ls hl => ?_)
          refine lv_goto (tgt := 4) hx hb dX8_standing_32 (by decide) ?_
          exact ih ((v1 + (0 : Int32))) ((v2 + (1 : Int32))) H locs ls h hP hD hS (lv_sub hl [2, 1, 0] rfl)
        · have h := g_f h cz
          refine lv_iconst (v := 1) hx hb dX8_standing_22 (by decide) ?_
          refine lv_goto (tgt := 27) hx hb dX8_standing_23 (by decide) ?_
          refine lv_iadd hx hb dX8_standing_27 ?_
          refine lv_istore_n (lv' := [(1, .int ((v1 + (1 : Int32)))), (0, .ref (ad 0)), (2, .int v2)]) hx hb dX8_standing_28 rfl hl (by decide) rfl (fun ls hl => ?_)
          refine lv_iinc (v := (v2 + (1 : Int32))) (lv' := [(2, .int ((v2 + (1 : Int32)))), (1, .int ((v1 + (1 : Int32)))), (0, .ref (ad 0))]) hx hb dX8_standing_29 hl (k := 2) rfl rfl (by decide) rfl (fun ls hl => ?_)
          refine lv_goto (tgt := 4) hx hb dX8_standing_32 (by decide) ?_
          exact ih ((v1 + (1 : Int32))) ((v2 + (1 : Int32))) H locs ls h hP hD hS (lv_sub hl [2, 1, 0] rfl)
  intro H locs hP hD hS
  unfold f_M_standing at h
  refine lv_iconst (v := 0) hx hb dX8_standing_0 (by decide) ?_
  refine lv_istore_n (lv' := [(1, .int ((0 : Int32))), (0, .ref (ad 0))]) hx hb dX8_standing_1 rfl hl (by decide) rfl (fun ls hl => ?_)
  refine lv_iconst (v := 0) hx hb dX8_standing_2 (by decide) ?_
  refine lv_istore_n (lv' := [(2, .int ((0 : Int32))), (1, .int ((0 : Int32))), (0, .ref (ad 0))]) hx hb dX8_standing_3 rfl hl (by decide) rfl (fun ls hl => ?_)
  exact B4 N ((0 : Int32)) ((0 : Int32)) H locs ls h hP hD hS (lv_sub hl [2, 1, 0] rfl)
