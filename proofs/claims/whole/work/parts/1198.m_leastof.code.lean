def f_M_leastOf_2 (N : Nat) (iM36 : Int32) (aM21 : Nat → Int32) (aM57 : Nat → Int32) (aM62 : Nat → Int32) (v1 : Int32) : Nat → Int32 → Option Int32
  | 0, _ => none
  | n + 1, v2 => (f_M_types iM36).bind fun q4 => (if q4 ≤ v2 then (some (-1 : Int32)) else (if v2 < 0 ∨ 512 ≤ v2.toNatClampNeg then none else (if (aM62 v2.toNatClampNeg) = 0 then (f_M_leastOf_2 N iM36 aM21 aM57 aM62 v1 n ((v2 + (1 : Int32)))) else ((f_M_isAt v1 v2 aM21 aM57).bind fun q22 => (if q22 = 0 then (f_M_leastOf_2 N iM36 aM21 aM57 aM62 v1 n ((v2 + (1 : Int32)))) else (some v2))))))
def f_M_leastOf (N : Nat) (a1 : Int32) (iM36 : Int32) (aM21 : Nat → Int32) (aM57 : Nat → Int32) (aM62 : Nat → Int32) : Option Int32 := f_M_leastOf_2 N iM36 aM21 aM57 aM62 a1 N ((0 : Int32))
set_option maxHeartbeats 8000000 in
set_option maxRecDepth 100000 in
theorem c_M_leastOf (l : Launch) (dC : Nat → ClassId) (dI : Nat → Nat → Nat) (cy : Nat → ClassId) (ad : Nat → Nat) (sz : Nat) (N : Nat) (a1 : Int32) (iM : Nat → Int32) (aM : Nat → Nat → Int32) (q : Int32) (h : f_M_leastOf N a1 (iM 36) (aM 21) (aM 57) (aM 62) = some q) : Met l yX8_leastOf wsX8_leastOf ({ frames := 1, cells := 0, slots := 0, locals := 22 } : Room) (cP (dC, dI) cy [.ref (ad 0), .int a1] (zzM ad cy iM aM) sz) (cQi (dC, dI) cy q (zzM ad cy iM aM) (va_A (zzM ad cy iM aM) sz)) 0 0 (va_A (zzM ad cy iM aM) sz) := by
  refine Met.ofW (cc := cX8_leastOf) (maxL := 3) (ret := (some .int)) (by decide) rfl ?_
  intro p e s m args below meth c s₁ B hml hv
  obtain ⟨hav, hsz, hP, hK, hD0, hN⟩ := hv
  have hx := B.exec
  have hb := B.bytes
  have hr := B.returns
  have hts := atoms_spec (ws := wsX8_leastOf) B.pre
  have hown : s.vm.findClass RX8 = some m.cls := findClass_of_methodNamed B.named
  have hlocks := B.notSynchronized
  subst hsz
  have hD := hD0.self (sz := s.heap.size)
  generalize hAe : va_A (zzM ad cy iM aM) s.heap.size = A at hD ⊢
  have hA : ∀ q : Nat, s.heap.size ≤ q → A q := fun q h => by rw [← hAe]; exact Or.inr h
  have hS : va_S A s.heap s.heap [] := va_S.rf
  generalize hWQ : (zzM ad cy iM aM) = WQ
  generalize hQQ : MQ below (cQi (dC, dI) cy q WQ A) args s 0 0 A = QQ
  have hl := lv_entry ([.ref (ad 0), .int a1] : List Value) (n := 3) (Nat.le_of_ble_eq_true rfl)
  have hfr := lg_entry_eq m ([.ref (ad 0), .int a1] : List Value) 3
  rw [← hav] at hfr
  rw [hfr]
  clear hfr hav
  generalize (lg_sl ([.ref (ad 0), .int a1] : List Value) ++ List.replicate (3 - (lg_sl ([.ref (ad 0), .int a1] : List Value)).length) Slot.unset).toArray = ls at hl ⊢
  have hl : lv_has ls 3 [(0, .ref (ad 0)), (1, .int a1)] := hl
  have kf117 := hts _ (List.mem_cons_of_mem _ m_fl_X8_117)
  have ki8 := (fun w h => List.mem_cons_of_mem _ (i_X8 w h) : ∀ w ∈ u_ws RX8 TX8 78, w ∈ wsX8_leastOf)
  refine (?_ : ∀ (H : Heap) (locs : List Loc), va_P (dC, dI) vwCl (zzM ad cy iM aM) H → va_D A (zzM ad cy iM aM) → va_S A s.heap H locs → W p l e ({ frames := 1, cells := 0, slots := 0, locals := 22 } : Room) s m args below meth c H locs 0 0 QQ (F0 m 0 ls [])) s.heap [] hP hD hS
  clear hP hD hS
  have B2 : ∀ (n : Nat) (v1 : Int32) (v2 : Int32) (H : Heap) (locs : List Loc) (ls : Array Slot), f_M_leastOf_2 N (iM 36) (aM 21) (aM 57) (aM 62) v1 n v2 = some q → va_P (dC, dI) vwCl (zzM ad cy iM aM) H → va_D A (zzM ad cy iM aM) → va_S A s.heap H locs → lv_has ls 3 [(0, .ref (ad 0)), (1, .int v1), (2, .int v2)] → W p l e ({ frames := 1, cells := 0, slots := 0, locals := 22 } : Room) s m args below meth c H locs 0 0 QQ (F0 m 2 ls []) := by
    intro n
    induction n with
    | zero =>
      intro v1 v2 H locs ls h hP hD hS hl
      rw [f_M_leastOf_2] at h
      cases h
    | succ n ih =>
      intro v1 v2 H locs ls h hP hD hS hl
      rw [f_M_leastOf_2] at h
      refine lv_iload_n hx hb dX8_leastOf_2 rfl (lv_at hl 2 rfl) ?_
      refine lv_aload_n hx hb dX8_leastOf_3 rfl (lv_at hl 0 rfl) ?_
      obtain ⟨q4, e4, h⟩ := g_b h
      refine callVis (cc := cX8_leastOf) (w1 := zzM ad cy iM aM) (As := []) (rest := [.int v2]) ⟨hx, hb, hml, hown, hts⟩ (c_M_types l dC dI cy ad H.size iM aM q4 e4) (cwV 0 hts (goodV m_ml_X8_368 m_im_X8_types m_se_X8_types m_in_X8 m_cd_X8_types) rfl rfl rfl (by decide +kernel) ⟨Nat.le_of_ble_eq_true rfl, Nat.le_of_ble_eq_true rfl⟩) hN hK hP hD hS hA rfl 0 rfl rfl rfl hl.1 rfl (Nat.le_of_ble_eq_true rfl) dX8_leastOf_4 ⟨Nat.zero_le _, Nat.zero_le _⟩ (fun H locs hP hD hS => ?_)
      refine lv_icmp_ge (tgt := 36) hx hb dX8_leastOf_7 (by decide) (fun cz => ?_) (fun cz => ?_)
      · have h := g_t h cz
        refine lv_iconst (v := (-1)) hx hb dX8_leastOf_36 (by decide) ?_
        have h' := Option.some.inj h
        rw [← hQQ]
        exact W.iret (v := (-1 : Int32)) hx hb hr (fun t ht hW => ⟨⟨(-1 : Int32), (), rfl, by rw [← h'], by rw [← hWQ, ht]; exact hP, va_K.moved hW.alike hK⟩, hS.F ht⟩) hS.2.2 dX8_leastOf_37
      · have h := g_f h cz
        refine lv_aload_n hx hb dX8_leastOf_10 rfl (lv_at hl 0 rfl) ?_
        refine va_get (D := (dC, dI)) (ci := 8) (v := .ref (ad 34)) (C := RX8) (T := TX8) (N := 78) hx hb hts ki8 hown hK hP 0 rfl rfl 62 (by decide) kf117 (fun _ h9 => h9) rfl dX8_leastOf_11 ?_
        refine lv_iload_n hx hb dX8_leastOf_14 rfl (lv_at hl 2 rfl) ?_
        obtain ⟨g_129, h⟩ := g_n h
        refine va_zald (f := (aM 62)) hx hb hK hP 34 4 rfl rfl g_129 dX8_leastOf_15 ?_
        refine lv_if_eq (tgt := 30) hx hb dX8_leastOf_16 (by decide) (fun cz => ?_) (fun cz => ?_)
        · have h := g_t h cz
          refine lv_iinc (v := (v2 + (1 : Int32))) (lv' := [(2, .int ((v2 + (1 : Int32)))), (0, .ref (ad 0)), (1, .int v1)]) hx hb dX8_leastOf_30 hl (k := 2) rfl rfl (by decide) rfl (fun ls hl => ?_)
          refine lv_goto (tgt := 2) hx hb dX8_leastOf_33 (by decide) ?_
          exact ih v1 ((v2 + (1 : Int32))) H locs ls h hP hD hS (lv_sub hl [1, 2, 0] rfl)
        · have h := g_f h cz
          refine lv_aload_n hx hb dX8_leastOf_19 rfl (lv_at hl 0 rfl) ?_
          refine lv_iload_n hx hb dX8_leastOf_20 rfl (lv_at hl 1 rfl) ?_
          refine lv_iload_n hx hb dX8_leastOf_21 rfl (lv_at hl 2 rfl) ?_
          obtain ⟨q22, e22, h⟩ := g_b h
          refine callVis (cc := cX8_leastOf) (w1 := zzM ad cy iM aM) (As := [.int v1, .int v2]) (rest := []) ⟨hx, hb, hml, hown, hts⟩ (c_M_isAt l dC dI cy ad H.size v1 v2 iM aM q22 e22) (cwV 2 hts (goodV m_ml_X8_414 m_im_X8_isAt m_se_X8_isAt m_in_X8 m_cd_X8_isAt) rfl rfl rfl (by decide +kernel) ⟨Nat.le_of_ble_eq_true rfl, Nat.le_of_ble_eq_true rfl⟩) hN hK hP hD hS hA rfl 0 rfl rfl rfl hl.1 rfl (Nat.le_of_ble_eq_true rfl) dX8_leastOf_22 ⟨Nat.zero_le _, Nat.zero_le _⟩ (fun H locs hP hD hS => ?_)
          refine lv_if_eq (tgt := 30) hx hb dX8_leastOf_25 (by decide) (fun cz => ?_) (fun cz => ?_)
          · have h := g_t h cz
            refine lv_iinc (v := (v2 + (1 : Int32))) (lv' := [(2, .int ((v2 + (1 : Int32)))), (0, .ref (ad 0)), (1, .int v1)]) hx hb dX8_leastOf_30 hl (k := 2) rfl rfl (by decide) rfl (fun ls hl => ?_)
            refine lv_goto (tgt := 2) hx hb dX8_leastOf_33 (by decide) ?_
            exact ih v1 ((v2 + (1 : Int32))) H locs ls h hP hD hS (lv_sub hl [1, 2, 0] rfl)
          · have h := g_f h cz
            refine lv_iload_n hx hb dX8_leastOf_28 rfl (lv_at hl 2 rfl) ?_
            have h' := Option.some.inj h
            rw [← hQQ]
            exact W.iret (v := v2) hx hb hr (fun t ht hW => ⟨⟨v2, (), rfl, by rw [← h'], by rw [← hWQ, ht]; exact hP, va_K.moved hW.alike hK⟩, hS.F ht⟩) hS.2.2 dX8_leastOf_29
  intro H locs hP hD hS
  unfold f_M_leastOf at h
  refine lv_iconst (v := 0) hx hb dX8_leastOf_0 (by decide) ?_
  refine lv_istore_n (lv' := [(2, .int ((0 : Int32))), (0, .ref (ad 0)), (1, .int a1)]) hx hb dX8_leastOf_1 rfl hl (by decide) rfl (fun ls hl => ?_)
  exact B2 N a1 ((0 : Int32)) H locs ls h hP hD hS (lv_sub hl [1, 2, 0] rfl)
