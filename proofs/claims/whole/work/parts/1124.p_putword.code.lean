def f_P_putWord_3 (N : Nat) (iP1 : Int32) (aP0 : Nat → Int32) (v1 : Int64) : Nat → Int32 → Int32 → (Nat → Int32) → Option (Int32 × (Nat → Int32))
  | 0, _, _, _ => none
  | n + 1, v3, x_iP1, x_aP0 => if v3 < 0 then (some (x_iP1, x_aP0)) else (if ((v1 >>> ((v3).toInt64 &&& 63)) &&& (255 : Int64)) = (0 : Int64) then (f_P_putWord_3 N iP1 aP0 v1 n ((v3 + (-8 : Int32))) x_iP1 x_aP0) else (if (2670 : Int32) ≤ x_iP1 then (f_P_putWord_3 N iP1 aP0 v1 n ((v3 + (-8 : Int32))) x_iP1 x_aP0) else (if x_iP1 < 0 ∨ 2670 ≤ x_iP1.toNatClampNeg then none else (f_P_putWord_3 N iP1 aP0 v1 n ((v3 + (-8 : Int32))) ((x_iP1 + (1 : Int32))) ((upd x_aP0 x_iP1.toNatClampNeg (vp_nar .byte (((((v1 >>> ((v3).toInt64 &&& 63)) &&& (255 : Int64))).toInt32).toInt8.toInt32))))))))
def f_P_putWord (N : Nat) (a1 : Int64) (iP1 : Int32) (aP0 : Nat → Int32) : Option (Int32 × (Nat → Int32)) := f_P_putWord_3 N iP1 aP0 a1 N ((56 : Int32)) iP1 aP0
set_option maxHeartbeats 8000000 in
set_option maxRecDepth 100000 in
theorem c_P_putWord (l : Launch) (dC : Nat → ClassId) (dI : Nat → Nat → Nat) (cy : Nat → ClassId) (ad : Nat → Nat) (sz : Nat) (N : Nat) (a1 : Int64) (iP : Nat → Int32) (aP : Nat → Nat → Int32) (iB : Nat → Int32) (lB : Nat → Nat → Int64) (aB : Nat → Nat → Int32) (iC : Nat → Int32) (aC : Nat → Nat → Int32) (q : Int32 × (Nat → Int32)) (h : f_P_putWord N a1 (iP 1) (aP 0) = some q) : Met l yX3_putWord wsX3_putWord ({ frames := 0, cells := 0, slots := 0, locals := 0 } : Room) (cP (dC, dI) cy [.ref (ad 0), .long a1] (zzP ad cy (ad 3) iP aP iB lB aB iC aC) sz) (cQv (dC, dI) cy (zzP ad cy (ad 3) (us iP [(1, q.1)]) (us aP [(0, q.2)]) iB lB aB iC aC) (va_A (zzP ad cy (ad 3) iP aP iB lB aB iC aC) sz)) 0 0 (va_A (zzP ad cy (ad 3) iP aP iB lB aB iC aC) sz) := by
  refine Met.ofW (cc := cX3_putWord) (maxL := 6) (ret := none) (by decide) rfl ?_
  intro p e s m args below meth c s₁ B hml hv
  obtain ⟨hav, hsz, hP, hK, hD0, hN⟩ := hv
  have hx := B.exec
  have hb := B.bytes
  have hr := B.returns
  have hts := atoms_spec (ws := wsX3_putWord) B.pre
  have hown : s.vm.findClass RX3 = some m.cls := findClass_of_methodNamed B.named
  have hlocks := B.notSynchronized
  subst hsz
  have hD := hD0.self (sz := s.heap.size)
  generalize hAe : va_A (zzP ad cy (ad 3) iP aP iB lB aB iC aC) s.heap.size = A at hD ⊢
  have hA : ∀ q : Nat, s.heap.size ≤ q → A q := fun q h => by rw [← hAe]; exact Or.inr h
  have hS : va_S A s.heap s.heap [] := va_S.rf
  generalize hWQ : (zzP ad cy (ad 3) (us iP [(1, q.1)]) (us aP [(0, q.2)]) iB lB aB iC aC) = WQ
  generalize hQQ : MQ below (cQv (dC, dI) cy WQ A) args s 0 0 A = QQ
  have hl := lv_entry ([.ref (ad 0), .long a1] : List Value) (n := 6) (Nat.le_of_ble_eq_true rfl)
  have hfr := lg_entry_eq m ([.ref (ad 0), .long a1] : List Value) 6
  rw [← hav] at hfr
  rw [hfr]
  clear hfr hav
  generalize (lg_sl ([.ref (ad 0), .long a1] : List Value) ++ List.replicate (6 - (lg_sl ([.ref (ad 0), .long a1] : List Value)).length) Slot.unset).toArray = ls at hl ⊢
  have hl : lv_has ls 6 [(0, .ref (ad 0)), (1, .long a1)] := hl
  have kc125 := hts _ (List.mem_cons_of_mem _ m_kl_X3_125)
  have kf23 := hts _ (List.mem_cons_of_mem _ m_fl_X3_23)
  have ki3 := (fun w h => List.mem_cons_of_mem _ (i_X3 w h) : ∀ w ∈ u_ws RX3 TX3 5, w ∈ wsX3_putWord)
  have kf9 := hts _ (List.mem_cons_of_mem _ m_fl_X3_9)
  refine (?_ : ∀ (H : Heap) (locs : List Loc), va_P (dC, dI) vwCl (zzP ad cy (ad 3) iP aP iB lB aB iC aC) H → va_D A (zzP ad cy (ad 3) iP aP iB lB aB iC aC) → va_S A s.heap H locs → W p l e ({ frames := 0, cells := 0, slots := 0, locals := 0 } : Room) s m args below meth c H locs 0 0 QQ (F0 m 0 ls [])) s.heap [] hP hD hS
  clear hP hD hS
  have B3 : ∀ (n : Nat) (v1 : Int64) (v3 : Int32) (x_iP1 : Int32) (x_aP0 : Nat → Int32) (H : Heap) (locs : List Loc) (ls : Array Slot), f_P_putWord_3 N (iP 1) (aP 0) v1 n v3 x_iP1 x_aP0 = some q → va_P (dC, dI) vwCl (zzP ad cy (ad 3) (us iP [(1, x_iP1)]) (us aP [(0, x_aP0)]) iB lB aB iC aC) H → va_D A (zzP ad cy (ad 3) (us iP [(1, x_iP1)]) (us aP [(0, x_aP0)]) iB lB aB iC aC) → va_S A s.heap H locs → lv_has ls 6 [(0, .ref (ad 0)), (1, .long v1), (3, .int v3)] → W p l e ({ frames := 0, cells := 0, slots := 0, locals := 0 } : Room) s m args below meth c H locs 0 0 QQ (F0 m 3 ls []) := by
    intro n
    induction n with
    | zero =>
      intro v1 v3 x_iP1 x_aP0 H locs ls h hP hD hS hl
      rw [f_P_putWord_3] at h
      cases h
    | succ n ih =>
      intro v1 v3 x_iP1 x_aP0 H locs ls h hP hD hS hl
      rw [f_P_putWord_3] at h
      refine lv_iload_n hx hb dX3_putWord_3 rfl (lv_at hl 2 rfl) ?_
      refine lv_if_lt (tgt := 62) hx hb dX3_putWord_4 (by decide) (fun cz => ?_) (fun cz => ?_)
      · have h := g_t h cz
        have h' := Option.some.inj h
        rw [← hQQ]
        exact W.vret hx hb hr (fun t ht hW => ⟨⟨(), rfl, trivial, by rw [← hWQ, ← h', ht]; exact hP, va_K.moved hW.alike hK⟩, hS.F ht⟩) hS.2.2 dX3_putWord_62
      · have h := g_f h cz
        refine lv_lload_n hx hb dX3_putWord_7 rfl (lv_at hl 1 rfl) ?_
        refine lv_iload_n hx hb dX3_putWord_8 rfl (lv_at hl 2 rfl) ?_
        refine lv_lshr (v := (v1 >>> ((v3).toInt64 &&& 63))) hx hb dX3_putWord_9 rfl ?_
        refine lv_ldc2 (v := 255) hx hb hown kc125 dX3_putWord_10 ?_
        refine lv_land hx hb dX3_putWord_13 ?_
        refine lv_lstore (lv' := [(4, .long (((v1 >>> ((v3).toInt64 &&& 63)) &&& (255 : Int64)))), (0, .ref (ad 0)), (1, .long v1), (3, .int v3)]) hx hb dX3_putWord_14 hl (by decide) rfl (fun ls hl => ?_)
        refine lv_lload hx hb dX3_putWord_16 (lv_at hl 0 rfl) ?_
        refine lv_lconst (v := 0) hx hb dX3_putWord_18 (by decide) ?_
        refine W.lcmp hx hb dX3_putWord_19 ?_
        refine lv_if_eq (tgt := 56) hx hb dX3_putWord_20 (by decide) (fun cz => ?_) (fun cz => ?_)
        · have h := g_t h (lg_cmp0.mp cz)
          refine lv_iinc (v := (v3 + (-8 : Int32))) (lv' := [(3, .int ((v3 + (-8 : Int32)))), (4, .long (((v1 >>> ((v3).toInt64 &&& 63)) &&& (255 : Int64)))), (0, .ref (ad 0)), (1, .long v1)]) hx hb dX3_putWord_56 hl (k := 3) rfl rfl (by decide) rfl (fun ls hl => ?_)
          refine lv_goto (tgt := 3) hx hb dX3_putWord_59 (by decide) ?_
          exact ih v1 ((v3 + (-8 : Int32))) x_iP1 x_aP0 H locs ls h hP hD hS (lv_sub hl [2, 3, 0] rfl)
        · have h := g_f h (fun z => cz (lg_cmp0.mpr z))
          refine lv_aload_n hx hb dX3_putWord_23 rfl (lv_at hl 1 rfl) ?_
          refine va_get (D := (dC, dI)) (ci := 3) (v := .int x_iP1) (C := RX3) (T := TX3) (N := 5) hx hb hts ki3 hown hK hP 0 rfl rfl 1 (by decide) kf23 (fun _ h9 => h9) rfl dX3_putWord_24 ?_
          refine lv_sipush (v := 2670) hx hb dX3_putWord_27 (by decide) ?_
          refine lv_icmp_ge (tgt := 56) hx hb dX3_putWord_30 (by decide) (fun cz => ?_) (fun cz => ?_)
          · have h := g_t h cz
            refine lv_iinc (v := (v3 + (-8 : Int32))) (lv' := [(3, .int ((v3 + (-8 : Int32)))), (4, .long (((v1 >>> ((v3).toInt64 &&& 63)) &&& (255 : Int64)))), (0, .ref (ad 0)), (1, .long v1)]) hx hb dX3_putWord_56 hl (k := 3) rfl rfl (by decide) rfl (fun ls hl => ?_)
            refine lv_goto (tgt := 3) hx hb dX3_putWord_59 (by decide) ?_
            exact ih v1 ((v3 + (-8 : Int32))) x_iP1 x_aP0 H locs ls h hP hD hS (lv_sub hl [2, 3, 0] rfl)
          · have h := g_f h cz
            refine lv_aload_n hx hb dX3_putWord_33 rfl (lv_at hl 1 rfl) ?_
            refine va_get (D := (dC, dI)) (ci := 3) (v := .ref (ad 1)) (C := RX3) (T := TX3) (N := 5) hx hb hts ki3 hown hK hP 0 rfl rfl 0 (by decide) kf9 (fun _ h9 => h9) rfl dX3_putWord_34 ?_
            refine lv_aload_n hx hb dX3_putWord_37 rfl (lv_at hl 1 rfl) ?_
            refine va_get (D := (dC, dI)) (ci := 3) (v := .int x_iP1) (C := RX3) (T := TX3) (N := 5) hx hb hts ki3 hown hK hP 0 rfl rfl 1 (by decide) kf23 (fun _ h9 => h9) rfl dX3_putWord_38 ?_
            refine lv_lload hx hb dX3_putWord_41 (lv_at hl 0 rfl) ?_
            refine lv_l2i (v := (((v1 >>> ((v3).toInt64 &&& 63)) &&& (255 : Int64))).toInt32) hx hb dX3_putWord_43 rfl ?_
            refine lv_i2b (v := ((((v1 >>> ((v3).toInt64 &&& 63)) &&& (255 : Int64))).toInt32).toInt8.toInt32) hx hb dX3_putWord_44 rfl ?_
            obtain ⟨g_42, h⟩ := g_n h
            refine va_bast (f := x_aP0) hx hb hK hP hD hS 1 1 rfl rfl g_42 dX3_putWord_45 (fun H locs hP hD hS => ?_)
            have hP : va_P (dC, dI) vwCl (zzP ad cy (ad 3) (us iP [(1, x_iP1)]) (us aP [(0, (upd x_aP0 x_iP1.toNatClampNeg (vp_nar .byte (((((v1 >>> ((v3).toInt64 &&& 63)) &&& (255 : Int64))).toInt32).toInt8.toInt32))))]) iB lB aB iC aC) H := Eq.mp (congrArg (fun w => va_P (dC, dI) vwCl w H) (stP_aP0 ad cy (ad 3) (us iP [(1, x_iP1)]) aP iB lB aB iC aC [(0, x_aP0)] ((upd x_aP0 x_iP1.toNatClampNeg (vp_nar .byte (((((v1 >>> ((v3).toInt64 &&& 63)) &&& (255 : Int64))).toInt32).toInt8.toInt32)))))) hP
            have hD : va_D A (zzP ad cy (ad 3) (us iP [(1, x_iP1)]) (us aP [(0, (upd x_aP0 x_iP1.toNatClampNeg (vp_nar .byte (((((v1 >>> ((v3).toInt64 &&& 63)) &&& (255 : Int64))).toInt32).toInt8.toInt32))))]) iB lB aB iC aC) := Eq.mp (congrArg (fun w => va_D A w) (stP_aP0 ad cy (ad 3) (us iP [(1, x_iP1)]) aP iB lB aB iC aC [(0, x_aP0)] ((upd x_aP0 x_iP1.toNatClampNeg (vp_nar .byte (((((v1 >>> ((v3).toInt64 &&& 63)) &&& (255 : Int64))).toInt32).toInt8.toInt32)))))) hD
            refine lv_aload_n hx hb dX3_putWord_46 rfl (lv_at hl 1 rfl) ?_
            refine lv_dup hx hb dX3_putWord_47 rfl ?_
            refine va_get (D := (dC, dI)) (ci := 3) (v := .int x_iP1) (C := RX3) (T := TX3) (N := 5) hx hb hts ki3 hown hK hP 0 rfl rfl 1 (by decide) kf23 (fun _ h9 => h9) rfl dX3_putWord_48 ?_
            refine lv_iconst (v := 1) hx hb dX3_putWord_51 (by decide) ?_
            refine lv_iadd hx hb dX3_putWord_52 ?_
            refine va_put (D := (dC, dI)) (ci := 3) (v := .int ((x_iP1 + (1 : Int32)))) (ty := .int) (C := RX3) (T := TX3) (N := 5) hx hb hts ki3 tyX3 tyX3_ok nmX3 hown hK hP hD hS 0 rfl rfl 1 (by decide) kf23 (fun _ h9 => h9) rfl (by decide +kernel) rfl rfl (Nat.le_of_ble_eq_true rfl) dX3_putWord_53 (fun H locs hP hD hS => ?_)
            have hP : va_P (dC, dI) vwCl (zzP ad cy (ad 3) (us iP [(1, (x_iP1 + (1 : Int32)))]) (us aP [(0, (upd x_aP0 x_iP1.toNatClampNeg (vp_nar .byte (((((v1 >>> ((v3).toInt64 &&& 63)) &&& (255 : Int64))).toInt32).toInt8.toInt32))))]) iB lB aB iC aC) H := Eq.mp (congrArg (fun w => va_P (dC, dI) vwCl w H) (stP_iP1 ad cy (ad 3) iP (us aP [(0, (upd x_aP0 x_iP1.toNatClampNeg (vp_nar .byte (((((v1 >>> ((v3).toInt64 &&& 63)) &&& (255 : Int64))).toInt32).toInt8.toInt32))))]) iB lB aB iC aC [(1, x_iP1)] ((x_iP1 + (1 : Int32))))) hP
            have hD : va_D A (zzP ad cy (ad 3) (us iP [(1, (x_iP1 + (1 : Int32)))]) (us aP [(0, (upd x_aP0 x_iP1.toNatClampNeg (vp_nar .byte (((((v1 >>> ((v3).toInt64 &&& 63)) &&& (255 : Int64))).toInt32).toInt8.toInt32))))]) iB lB aB iC aC) := Eq.mp (congrArg (fun w => va_D A w) (stP_iP1 ad cy (ad 3) iP (us aP [(0, (upd x_aP0 x_iP1.toNatClampNeg (vp_nar .byte (((((v1 >>> ((v3).toInt64 &&& 63)) &&& (255 : Int64))).toInt32).toInt8.toInt32))))]) iB lB aB iC aC [(1, x_iP1)] ((x_iP1 + (1 : Int32))))) hD
            refine lv_iinc (v := (v3 + (-8 : Int32))) (lv' := [(3, .int ((v3 + (-8 : Int32)))), (4, .long (((v1 >>> ((v3).toInt64 &&& 63)) &&& (255 : Int64)))), (0, .ref (ad 0)), (1, .long v1)]) hx hb dX3_putWord_56 hl (k := 3) rfl rfl (by decide) rfl (fun ls hl => ?_)
            refine lv_goto (tgt := 3) hx hb dX3_putWord_59 (by decide) ?_
            exact ih v1 ((v3 + (-8 : Int32))) ((x_iP1 + (1 : Int32))) ((upd x_aP0 x_iP1.toNatClampNeg (vp_nar .byte (((((v1 >>> ((v3).toInt64 &&& 63)) &&& (255 : Int64))).toInt32).toInt8.toInt32)))) H locs ls h hP hD hS (lv_sub hl [2, 3, 0] rfl)
  intro H locs hP hD hS
  unfold f_P_putWord at h
  refine lv_bipush (v := 56) hx hb dX3_putWord_0 (by decide) ?_
  refine lv_istore_n (lv' := [(3, .int ((56 : Int32))), (0, .ref (ad 0)), (1, .long a1)]) hx hb dX3_putWord_2 rfl hl (by decide) rfl (fun ls hl => ?_)
  exact B3 N a1 ((56 : Int32)) (iP 1) (aP 0) H locs ls h hP hD hS (lv_sub hl [1, 2, 0] rfl)
