def f_K_sizeOf_11 (N : Nat) (ln : Nat) (la : Nat → Int64) (v4 : Int32) : Nat → Int32 → Int32 → Option Int32
  | 0, _, _ => none
  | n + 1, v2, v5 => if v4 ≤ v5 then (some v2) else (if v5 < 0 ∨ ln ≤ v5.toNatClampNeg then none else ((f_J_bitCount ((la v5.toNatClampNeg))).bind fun q27 => (f_K_sizeOf_11 N ln la v4 n ((v2 + q27)) ((v5 + (1 : Int32))))))
def f_K_sizeOf (N : Nat) (ln : Nat) (la : Nat → Int64) : Option Int32 := f_K_sizeOf_11 N ln la ((Int32.ofNat ln)) N ((0 : Int32)) ((0 : Int32))
set_option maxHeartbeats 8000000 in
set_option maxRecDepth 100000 in
theorem c_K_sizeOf (l : Launch) (dC : Nat → ClassId) (dI : Nat → Nat → Nat) (cy : Nat → ClassId) (ad : Nat → Nat) (sz : Nat) (rcv : Nat) (N : Nat) (ln : Nat) (la : Nat → Int64) (q : Int32) (h : f_K_sizeOf N ln la = some q) : Met l yX2_sizeOf wsX2_sizeOf ({ frames := 1, cells := 0, slots := 0, locals := 21 } : Room) (cP (dC, dI) cy [.ref rcv, .ref (ad 0)] (zzA ad cy ln la) sz) (cQi (dC, dI) cy q (zzA ad cy ln la) (va_A (zzA ad cy ln la) sz)) 0 0 (va_A (zzA ad cy ln la) sz) := by
  refine Met.ofW (cc := cX2_sizeOf) (maxL := 8) (ret := (some .int)) (by decide) rfl ?_
  intro p e s m args below meth c s₁ B hml hv
  obtain ⟨hav, hsz, hP, hK, hD0, hN⟩ := hv
  have hx := B.exec
  have hb := B.bytes
  have hr := B.returns
  have hts := atoms_spec (ws := wsX2_sizeOf) B.pre
  have hown : s.vm.findClass RX2 = some m.cls := findClass_of_methodNamed B.named
  have hlocks := B.notSynchronized
  subst hsz
  have hD := hD0.self (sz := s.heap.size)
  generalize hAe : va_A (zzA ad cy ln la) s.heap.size = A at hD ⊢
  have hA : ∀ q : Nat, s.heap.size ≤ q → A q := fun q h => by rw [← hAe]; exact Or.inr h
  have hS : va_S A s.heap s.heap [] := va_S.rf
  generalize hWQ : (zzA ad cy ln la) = WQ
  generalize hQQ : MQ below (cQi (dC, dI) cy q WQ A) args s 0 0 A = QQ
  have hl := lv_entry ([.ref rcv, .ref (ad 0)] : List Value) (n := 8) (Nat.le_of_ble_eq_true rfl)
  have hfr := lg_entry_eq m ([.ref rcv, .ref (ad 0)] : List Value) 8
  rw [← hav] at hfr
  rw [hfr]
  clear hfr hav
  generalize (lg_sl ([.ref rcv, .ref (ad 0)] : List Value) ++ List.replicate (8 - (lg_sl ([.ref rcv, .ref (ad 0)] : List Value)).length) Slot.unset).toArray = ls at hl ⊢
  have hl : lv_has ls 8 [(0, .ref rcv), (1, .ref (ad 0))] := hl
  refine (?_ : ∀ (H : Heap) (locs : List Loc), va_P (dC, dI) vwCl (zzA ad cy ln la) H → va_D A (zzA ad cy ln la) → va_S A s.heap H locs → W p l e ({ frames := 1, cells := 0, slots := 0, locals := 21 } : Room) s m args below meth c H locs 0 0 QQ (F0 m 0 ls [])) s.heap [] hP hD hS
  clear hP hD hS
  have B11 : ∀ (n : Nat) (v4 : Int32) (v2 : Int32) (v5 : Int32) (H : Heap) (locs : List Loc) (ls : Array Slot), f_K_sizeOf_11 N ln la v4 n v2 v5 = some q → va_P (dC, dI) vwCl (zzA ad cy ln la) H → va_D A (zzA ad cy ln la) → va_S A s.heap H locs → lv_has ls 8 [(2, .int v2), (3, .ref (ad 0)), (4, .int v4), (5, .int v5)] → W p l e ({ frames := 1, cells := 0, slots := 0, locals := 21 } : Room) s m args below meth c H locs 0 0 QQ (F0 m 11 ls []) := by
    intro n
    induction n with
    | zero =>
      intro v4 v2 v5 H locs ls h hP hD hS hl
      rw [f_K_sizeOf_11] at h
      cases h
    | succ n ih =>
      intro v4 v2 v5 H locs ls h hP hD hS hl
      rw [f_K_sizeOf_11] at h
      refine lv_iload hx hb dX2_sizeOf_11 (lv_at hl 3 rfl) ?_
      refine lv_iload hx hb dX2_sizeOf_13 (lv_at hl 2 rfl) ?_
      refine lv_icmp_ge (tgt := 38) hx hb dX2_sizeOf_15 (by decide) (fun cz => ?_) (fun cz => ?_)
      · have h := g_t h cz
        refine lv_iload_n hx hb dX2_sizeOf_38 rfl (lv_at hl 0 rfl) ?_
        have h' := Option.some.inj h
        rw [← hQQ]
        exact W.iret (v := v2) hx hb hr (fun t ht hW => ⟨⟨v2, (), rfl, by rw [← h'], by rw [← hWQ, ht]; exact hP, va_K.moved hW.alike hK⟩, hS.F ht⟩) hS.2.2 dX2_sizeOf_39
      · have h := g_f h cz
        refine lv_aload_n hx hb dX2_sizeOf_18 rfl (lv_at hl 1 rfl) ?_
        refine lv_iload hx hb dX2_sizeOf_19 (lv_at hl 3 rfl) ?_
        obtain ⟨g_33, h⟩ := g_n h
        refine va_lald (f := la) hx hb hK hP 0 2 rfl rfl g_33 dX2_sizeOf_21 ?_
        refine lv_lstore (lv' := [(6, .long ((la v5.toNatClampNeg))), (2, .int v2), (3, .ref (ad 0)), (4, .int v4), (5, .int v5)]) hx hb dX2_sizeOf_22 hl (by decide) rfl (fun ls hl => ?_)
        refine lv_iload_n hx hb dX2_sizeOf_24 rfl (lv_at hl 1 rfl) ?_
        refine lv_lload hx hb dX2_sizeOf_25 (lv_at hl 0 rfl) ?_
        obtain ⟨q27, e27, h⟩ := g_b h
        refine callSi (cc := cX2_sizeOf) (ws' := zzA ad cy ln la) (As := [.long ((la v5.toNatClampNeg))]) (rest := [.int v2]) ⟨hx, hb, hml, hown, hts⟩ (c_J_bitCount l dC dI cy ad H.size ((la v5.toNatClampNeg)) q27 e27) (va_cwS 1 hts (goodS m_ml_X2_191 m_st_J13_bitCount_95d88 m_in_J13 m_cd_J13_bitCount_95d88) rfl rfl rfl (by decide +kernel) ⟨Nat.le_of_ble_eq_true rfl, Nat.le_of_ble_eq_true rfl⟩) hN hK hP hD hS hA [] [none] rfl rfl rfl rfl rfl rfl rfl hl.1 rfl (Nat.le_of_ble_eq_true rfl) dX2_sizeOf_27 ⟨Nat.zero_le _, Nat.zero_le _⟩ (fun H locs hP hD hS => ?_)
        refine lv_iadd hx hb dX2_sizeOf_30 ?_
        refine lv_istore_n (lv' := [(2, .int ((v2 + q27))), (6, .long ((la v5.toNatClampNeg))), (3, .ref (ad 0)), (4, .int v4), (5, .int v5)]) hx hb dX2_sizeOf_31 rfl hl (by decide) rfl (fun ls hl => ?_)
        refine lv_iinc (v := (v5 + (1 : Int32))) (lv' := [(5, .int ((v5 + (1 : Int32)))), (2, .int ((v2 + q27))), (6, .long ((la v5.toNatClampNeg))), (3, .ref (ad 0)), (4, .int v4)]) hx hb dX2_sizeOf_32 hl (k := 4) rfl rfl (by decide) rfl (fun ls hl => ?_)
        refine lv_goto (tgt := 11) hx hb dX2_sizeOf_35 (by decide) ?_
        exact ih v4 ((v2 + q27)) ((v5 + (1 : Int32))) H locs ls h hP hD hS (lv_sub hl [1, 3, 4, 0] rfl)
  intro H locs hP hD hS
  unfold f_K_sizeOf at h
  refine lv_iconst (v := 0) hx hb dX2_sizeOf_0 (by decide) ?_
  refine lv_istore_n (lv' := [(2, .int ((0 : Int32))), (0, .ref rcv), (1, .ref (ad 0))]) hx hb dX2_sizeOf_1 rfl hl (by decide) rfl (fun ls hl => ?_)
  refine lv_aload_n hx hb dX2_sizeOf_2 rfl (lv_at hl 2 rfl) ?_
  refine lv_astore_n (lv' := [(3, .ref (ad 0)), (2, .int ((0 : Int32))), (0, .ref rcv), (1, .ref (ad 0))]) hx hb dX2_sizeOf_3 rfl hl (by decide) rfl (fun ls hl => ?_)
  refine lv_aload_n hx hb dX2_sizeOf_4 rfl (lv_at hl 0 rfl) ?_
  refine va_alen (v := (Int32.ofNat ln)) hx hb hK hP 0 2 rfl rfl rfl dX2_sizeOf_5 ?_
  refine lv_istore (lv' := [(4, .int ((Int32.ofNat ln))), (3, .ref (ad 0)), (2, .int ((0 : Int32))), (0, .ref rcv), (1, .ref (ad 0))]) hx hb dX2_sizeOf_6 hl (by decide) rfl (fun ls hl => ?_)
  refine lv_iconst (v := 0) hx hb dX2_sizeOf_8 (by decide) ?_
  refine lv_istore (lv' := [(5, .int ((0 : Int32))), (4, .int ((Int32.ofNat ln))), (3, .ref (ad 0)), (2, .int ((0 : Int32))), (0, .ref rcv), (1, .ref (ad 0))]) hx hb dX2_sizeOf_9 hl (by decide) rfl (fun ls hl => ?_)
  exact B11 N ((Int32.ofNat ln)) ((0 : Int32)) ((0 : Int32)) H locs ls h hP hD hS (lv_sub hl [3, 2, 1, 0] rfl)
