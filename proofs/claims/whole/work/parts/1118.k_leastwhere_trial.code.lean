def f_K_leastWhere_trial_2 (N : Nat) (lK3 : Nat → Int64) (lK10 : Nat → Int64) (v1 : Int32) : Nat → Int32 → Option Int32
  | 0, _ => none
  | n + 1, v3 => if (8 : Int32) ≤ v3 then (some (-1 : Int32)) else (if (8 : Int32) ≤ v3 then (some (-1 : Int32)) else (if v3 < 0 ∨ 8 ≤ v3.toNatClampNeg then none else ((f_K_truthOf v1 v3 lK3).bind fun q20 => (if ((lK10 v3.toNatClampNeg) &&& q20) = (0 : Int64) then (f_K_leastWhere_trial_2 N lK3 lK10 v1 n ((v3 + (1 : Int32)))) else ((f_K_lowestBit (((lK10 v3.toNatClampNeg) &&& q20))).bind fun q39 => (some (((64 : Int32) * v3) + q39)))))))
def f_K_leastWhere_trial (N : Nat) (a1 : Int32) (lK3 : Nat → Int64) (lK10 : Nat → Int64) : Option Int32 := f_K_leastWhere_trial_2 N lK3 lK10 a1 N ((0 : Int32))
set_option maxHeartbeats 8000000 in
set_option maxRecDepth 100000 in
theorem c_K_leastWhere_trial (l : Launch) (dC : Nat → ClassId) (dI : Nat → Nat → Nat) (cy : Nat → ClassId) (ad : Nat → Nat) (sz : Nat) (N : Nat) (a1 : Int32) (iK : Nat → Int32) (lK : Nat → Nat → Int64) (aK : Nat → Nat → Int32) (iB : Nat → Int32) (lB : Nat → Nat → Int64) (aB : Nat → Nat → Int32) (iC : Nat → Int32) (aC : Nat → Nat → Int32) (q : Int32) (h : f_K_leastWhere_trial N a1 (lK 3) (lK 10) = some q) : Met l yX2_leastWhere wsX2_leastWhere ({ frames := 2, cells := 0, slots := 0, locals := 42 } : Room) (cP (dC, dI) cy [.ref (ad 0), .int a1, .ref (ad 7)] (zzK ad cy (ad 11) (ad 18) iK lK aK iB lB aB iC aC) sz) (cQi (dC, dI) cy q (zzK ad cy (ad 11) (ad 18) iK lK aK iB lB aB iC aC) (va_A (zzK ad cy (ad 11) (ad 18) iK lK aK iB lB aB iC aC) sz)) 0 0 (va_A (zzK ad cy (ad 11) (ad 18) iK lK aK iB lB aB iC aC) sz) := by
  refine Met.ofW (cc := cX2_leastWhere) (maxL := 6) (ret := (some .int)) (by decide) rfl ?_
  intro p e s m args below meth c s₁ B hml hv
  obtain ⟨hav, hsz, hP, hK, hD0, hN⟩ := hv
  have hx := B.exec
  have hb := B.bytes
  have hr := B.returns
  have hts := atoms_spec (ws := wsX2_leastWhere) B.pre
  have hown : s.vm.findClass RX2 = some m.cls := findClass_of_methodNamed B.named
  have hlocks := B.notSynchronized
  subst hsz
  have hD := hD0.self (sz := s.heap.size)
  generalize hAe : va_A (zzK ad cy (ad 11) (ad 18) iK lK aK iB lB aB iC aC) s.heap.size = A at hD ⊢
  have hA : ∀ q : Nat, s.heap.size ≤ q → A q := fun q h => by rw [← hAe]; exact Or.inr h
  have hS : va_S A s.heap s.heap [] := va_S.rf
  generalize hWQ : (zzK ad cy (ad 11) (ad 18) iK lK aK iB lB aB iC aC) = WQ
  generalize hQQ : MQ below (cQi (dC, dI) cy q WQ A) args s 0 0 A = QQ
  have hl := lv_entry ([.ref (ad 0), .int a1, .ref (ad 7)] : List Value) (n := 6) (Nat.le_of_ble_eq_true rfl)
  have hfr := lg_entry_eq m ([.ref (ad 0), .int a1, .ref (ad 7)] : List Value) 6
  rw [← hav] at hfr
  rw [hfr]
  clear hfr hav
  generalize (lg_sl ([.ref (ad 0), .int a1, .ref (ad 7)] : List Value) ++ List.replicate (6 - (lg_sl ([.ref (ad 0), .int a1, .ref (ad 7)] : List Value)).length) Slot.unset).toArray = ls at hl ⊢
  have hl : lv_has ls 6 [(0, .ref (ad 0)), (1, .int a1), (2, .ref (ad 7))] := hl
  refine (?_ : ∀ (H : Heap) (locs : List Loc), va_P (dC, dI) vwCl (zzK ad cy (ad 11) (ad 18) iK lK aK iB lB aB iC aC) H → va_D A (zzK ad cy (ad 11) (ad 18) iK lK aK iB lB aB iC aC) → va_S A s.heap H locs → W p l e ({ frames := 2, cells := 0, slots := 0, locals := 42 } : Room) s m args below meth c H locs 0 0 QQ (F0 m 0 ls [])) s.heap [] hP hD hS
  clear hP hD hS
  have B2 : ∀ (n : Nat) (v1 : Int32) (v3 : Int32) (H : Heap) (locs : List Loc) (ls : Array Slot), f_K_leastWhere_trial_2 N (lK 3) (lK 10) v1 n v3 = some q → va_P (dC, dI) vwCl (zzK ad cy (ad 11) (ad 18) iK lK aK iB lB aB iC aC) H → va_D A (zzK ad cy (ad 11) (ad 18) iK lK aK iB lB aB iC aC) → va_S A s.heap H locs → lv_has ls 6 [(0, .ref (ad 0)), (1, .int v1), (2, .ref (ad 7)), (3, .int v3)] → W p l e ({ frames := 2, cells := 0, slots := 0, locals := 42 } : Room) s m args below meth c H locs 0 0 QQ (F0 m 2 ls []) := by
    intro n
    induction n with
    | zero =>
      intro v1 v3 H locs ls h hP hD hS hl
      rw [f_K_leastWhere_trial_2] at h
      cases h
    | succ n ih =>
      intro v1 v3 H locs ls h hP hD hS hl
      rw [f_K_leastWhere_trial_2] at h
      refine lv_iload_n hx hb dX2_leastWhere_2 rfl (lv_at hl 3 rfl) ?_
      refine lv_bipush (v := 8) hx hb dX2_leastWhere_3 (by decide) ?_
      refine lv_icmp_ge (tgt := 50) hx hb dX2_leastWhere_5 (by decide) (fun cz => ?_) (fun cz => ?_)
      · have h := g_t h cz
        refine lv_iconst (v := (-1)) hx hb dX2_leastWhere_50 (by decide) ?_
        have h' := Option.some.inj h
        rw [← hQQ]
        exact W.iret (v := (-1 : Int32)) hx hb hr (fun t ht hW => ⟨⟨(-1 : Int32), (), rfl, by rw [← h'], by rw [← hWQ, ht]; exact hP, va_K.moved hW.alike hK⟩, hS.F ht⟩) hS.2.2 dX2_leastWhere_51
      · have h := g_f h cz
        refine lv_iload_n hx hb dX2_leastWhere_8 rfl (lv_at hl 3 rfl) ?_
        refine lv_aload_n hx hb dX2_leastWhere_9 rfl (lv_at hl 2 rfl) ?_
        refine va_alen (v := (8 : Int32)) hx hb hK hP 7 2 rfl rfl rfl dX2_leastWhere_10 ?_
        refine lv_icmp_ge (tgt := 50) hx hb dX2_leastWhere_11 (by decide) (fun cz => ?_) (fun cz => ?_)
        · have h := g_t h cz
          refine lv_iconst (v := (-1)) hx hb dX2_leastWhere_50 (by decide) ?_
          have h' := Option.some.inj h
          rw [← hQQ]
          exact W.iret (v := (-1 : Int32)) hx hb hr (fun t ht hW => ⟨⟨(-1 : Int32), (), rfl, by rw [← h'], by rw [← hWQ, ht]; exact hP, va_K.moved hW.alike hK⟩, hS.F ht⟩) hS.2.2 dX2_leastWhere_51
        · have h := g_f h cz
          refine lv_aload_n hx hb dX2_leastWhere_14 rfl (lv_at hl 2 rfl) ?_
          refine lv_iload_n hx hb dX2_leastWhere_15 rfl (lv_at hl 3 rfl) ?_
          obtain ⟨g_22, h⟩ := g_n h
          refine va_lald (f := (lK 10)) hx hb hK hP 7 2 rfl rfl g_22 dX2_leastWhere_16 ?_
          refine lv_aload_n hx hb dX2_leastWhere_17 rfl (lv_at hl 0 rfl) ?_
          refine lv_iload_n hx hb dX2_leastWhere_18 rfl (lv_at hl 1 rfl) ?_
          refine lv_iload_n hx hb dX2_leastWhere_19 rfl (lv_at hl 3 rfl) ?_
          obtain ⟨q20, e20, h⟩ := g_b h
          refine callVls (cc := cX2_leastWhere) (w1 := zzK ad cy (ad 11) (ad 18) iK lK aK iB lB aB iC aC) (As := [.int v1, .int v3]) (rest := [.long (((lK 10) v3.toNatClampNeg))]) ⟨hx, hb, hml, hown, hts⟩ (c_K_truthOf l dC dI cy ad H.size v1 v3 iK lK aK iB lB aB iC aC q20 e20) (cwV 2 hts (goodV m_ml_X2_81 m_im_X2_truthOf m_se_X2_truthOf m_in_X2 m_cd_X2_truthOf) rfl rfl rfl (by decide +kernel) ⟨Nat.le_of_ble_eq_true rfl, Nat.le_of_ble_eq_true rfl⟩) hN hK hP hD hS hA rfl 0 rfl rfl rfl hl.1 rfl (Nat.le_of_ble_eq_true rfl) dX2_leastWhere_20 ⟨Nat.zero_le _, Nat.zero_le _⟩ (fun H locs hP hD hS => ?_)
          refine lv_land hx hb dX2_leastWhere_23 ?_
          refine lv_lstore (lv' := [(4, .long ((((lK 10) v3.toNatClampNeg) &&& q20))), (0, .ref (ad 0)), (1, .int v1), (2, .ref (ad 7)), (3, .int v3)]) hx hb dX2_leastWhere_24 hl (by decide) rfl (fun ls hl => ?_)
          refine lv_lload hx hb dX2_leastWhere_26 (lv_at hl 0 rfl) ?_
          refine lv_lconst (v := 0) hx hb dX2_leastWhere_28 (by decide) ?_
          refine W.lcmp hx hb dX2_leastWhere_29 ?_
          refine lv_if_eq (tgt := 44) hx hb dX2_leastWhere_30 (by decide) (fun cz => ?_) (fun cz => ?_)
          · have h := g_t h (lg_cmp0.mp cz)
            refine lv_iinc (v := (v3 + (1 : Int32))) (lv' := [(3, .int ((v3 + (1 : Int32)))), (4, .long ((((lK 10) v3.toNatClampNeg) &&& q20))), (0, .ref (ad 0)), (1, .int v1), (2, .ref (ad 7))]) hx hb dX2_leastWhere_44 hl (k := 4) rfl rfl (by decide) rfl (fun ls hl => ?_)
            refine lv_goto (tgt := 2) hx hb dX2_leastWhere_47 (by decide) ?_
            exact ih v1 ((v3 + (1 : Int32))) H locs ls h hP hD hS (lv_sub hl [2, 3, 4, 0] rfl)
          · have h := g_f h (fun z => cz (lg_cmp0.mpr z))
            refine lv_bipush (v := 64) hx hb dX2_leastWhere_33 (by decide) ?_
            refine lv_iload_n hx hb dX2_leastWhere_35 rfl (lv_at hl 4 rfl) ?_
            refine lv_imul hx hb dX2_leastWhere_36 ?_
            refine lv_lload hx hb dX2_leastWhere_37 (lv_at hl 0 rfl) ?_
            obtain ⟨q39, e39, h⟩ := g_b h
            refine callSi (cc := cX2_leastWhere) (ws' := zzK ad cy (ad 11) (ad 18) iK lK aK iB lB aB iC aC) (As := [.long ((((lK 10) v3.toNatClampNeg) &&& q20))]) (rest := [.int (((64 : Int32) * v3))]) ⟨hx, hb, hml, hown, hts⟩ (c_K_lowestBit l dC dI cy ad H.size ((((lK 10) v3.toNatClampNeg) &&& q20)) q39 e39) (va_cwS 1 hts (goodS m_ml_X2_180 m_st_X2_lowestBit m_in_X2 m_cd_X2_lowestBit) rfl rfl rfl (by decide +kernel) ⟨Nat.le_of_ble_eq_true rfl, Nat.le_of_ble_eq_true rfl⟩) hN hK hP hD hS hA [] [none, none, none, none, none, none, none, none, none, none, none, none, none, none, none, none, none, none, none, none, none, none, none, none, none, none, none] rfl rfl rfl rfl rfl rfl rfl hl.1 rfl (Nat.le_of_ble_eq_true rfl) dX2_leastWhere_39 ⟨Nat.zero_le _, Nat.zero_le _⟩ (fun H locs hP hD hS => ?_)
            refine lv_iadd hx hb dX2_leastWhere_42 ?_
            have h' := Option.some.inj h
            rw [← hQQ]
            exact W.iret (v := (((64 : Int32) * v3) + q39)) hx hb hr (fun t ht hW => ⟨⟨(((64 : Int32) * v3) + q39), (), rfl, by rw [← h'], by rw [← hWQ, ht]; exact hP, va_K.moved hW.alike hK⟩, hS.F ht⟩) hS.2.2 dX2_leastWhere_43
  intro H locs hP hD hS
  unfold f_K_leastWhere_trial at h
  refine lv_iconst (v := 0) hx hb dX2_leastWhere_0 (by decide) ?_
  refine lv_istore_n (lv' := [(3, .int ((0 : Int32))), (0, .ref (ad 0)), (1, .int a1), (2, .ref (ad 7))]) hx hb dX2_leastWhere_1 rfl hl (by decide) rfl (fun ls hl => ?_)
  exact B2 N a1 ((0 : Int32)) H locs ls h hP hD hS (lv_sub hl [1, 2, 3, 0] rfl)
