def f_K_put_45 (ln : Nat) (la : Nat → Int64) (s1 : Int32) (s2 : Int64) : Option ((Nat → Int64)) := if s1 < 0 ∨ ln ≤ s1.toNatClampNeg then none else (some (vp_updL la s1.toNatClampNeg s2))
def f_K_put (ln : Nat) (a1 : Int32) (a2 : Int32) (la : Nat → Int64) : Option ((Nat → Int64)) := if (a1 >>> ((6 : Int32) &&& 31)) < 0 then (some la) else (if (Int32.ofNat ln) ≤ (a1 >>> ((6 : Int32) &&& 31)) then (some la) else (if a2 = 0 then (if (a1 >>> ((6 : Int32) &&& 31)) < 0 ∨ ln ≤ ((a1 >>> ((6 : Int32) &&& 31))).toNatClampNeg then none else (f_K_put_45 ln la ((a1 >>> ((6 : Int32) &&& 31))) (((la ((a1 >>> ((6 : Int32) &&& 31))).toNatClampNeg) &&& (((1 : Int64) <<< ((a1).toInt64 &&& 63)) ^^^ (-1 : Int64)))))) else (if (a1 >>> ((6 : Int32) &&& 31)) < 0 ∨ ln ≤ ((a1 >>> ((6 : Int32) &&& 31))).toNatClampNeg then none else (f_K_put_45 ln la ((a1 >>> ((6 : Int32) &&& 31))) (((la ((a1 >>> ((6 : Int32) &&& 31))).toNatClampNeg) ||| ((1 : Int64) <<< ((a1).toInt64 &&& 63))))))))
set_option maxHeartbeats 8000000 in
set_option maxRecDepth 100000 in
theorem c_K_put (l : Launch) (dC : Nat → ClassId) (dI : Nat → Nat → Nat) (cy : Nat → ClassId) (ad : Nat → Nat) (sz : Nat) (ln : Nat) (a1 : Int32) (a2 : Int32) (la : Nat → Int64) (q : (Nat → Int64)) (h : f_K_put ln a1 a2 la = some q) : Met l yX2_put wsX2_put ({ frames := 0, cells := 0, slots := 0, locals := 0 } : Room) (cP (dC, dI) cy [.ref (ad 0), .int a1, .int a2] (zzA ad cy ln la) sz) (cQv (dC, dI) cy (zzA ad cy ln q) (va_A (zzA ad cy ln la) sz)) 0 0 (va_A (zzA ad cy ln la) sz) := by
  refine Met.ofW (cc := cX2_put) (maxL := 6) (ret := none) (by decide) rfl ?_
  intro p e s m args below meth c s₁ B hml hv
  obtain ⟨hav, hsz, hP, hK, hD0, hN⟩ := hv
  have hx := B.exec
  have hb := B.bytes
  have hr := B.returns
  have hts := atoms_spec (ws := wsX2_put) B.pre
  have hown : s.vm.findClass RX2 = some m.cls := findClass_of_methodNamed B.named
  have hlocks := B.notSynchronized
  subst hsz
  have hD := hD0.self (sz := s.heap.size)
  generalize hAe : va_A (zzA ad cy ln la) s.heap.size = A at hD ⊢
  have hA : ∀ q : Nat, s.heap.size ≤ q → A q := fun q h => by rw [← hAe]; exact Or.inr h
  have hS : va_S A s.heap s.heap [] := va_S.rf
  generalize hWQ : (zzA ad cy ln q) = WQ
  generalize hQQ : MQ below (cQv (dC, dI) cy WQ A) args s 0 0 A = QQ
  have hl := lv_entry ([.ref (ad 0), .int a1, .int a2] : List Value) (n := 6) (Nat.le_of_ble_eq_true rfl)
  have hfr := lg_entry_eq m ([.ref (ad 0), .int a1, .int a2] : List Value) 6
  rw [← hav] at hfr
  rw [hfr]
  clear hfr hav
  generalize (lg_sl ([.ref (ad 0), .int a1, .int a2] : List Value) ++ List.replicate (6 - (lg_sl ([.ref (ad 0), .int a1, .int a2] : List Value)).length) Slot.unset).toArray = ls at hl ⊢
  have hl : lv_has ls 6 [(0, .ref (ad 0)), (1, .int a1), (2, .int a2)] := hl
  have kc88 := hts _ (List.mem_cons_of_mem _ m_kl_X2_88)
  refine (?_ : ∀ (H : Heap) (locs : List Loc), va_P (dC, dI) vwCl (zzA ad cy ln la) H → va_D A (zzA ad cy ln la) → va_S A s.heap H locs → W p l e ({ frames := 0, cells := 0, slots := 0, locals := 0 } : Room) s m args below meth c H locs 0 0 QQ (F0 m 0 ls [])) s.heap [] hP hD hS
  clear hP hD hS
  have B45 : ∀ (s1 : Int32) (s2 : Int64) (H : Heap) (locs : List Loc) (ls : Array Slot), f_K_put_45 ln la s1 s2 = some q → va_P (dC, dI) vwCl (zzA ad cy ln la) H → va_D A (zzA ad cy ln la) → va_S A s.heap H locs → lv_has ls 6 [] → W p l e ({ frames := 0, cells := 0, slots := 0, locals := 0 } : Room) s m args below meth c H locs 0 0 QQ (F0 m 45 ls [.long s2, .int s1, .ref (ad 0)]) := by
    intro s1 s2 H locs ls h hP hD hS hl
    unfold f_K_put_45 at h
    obtain ⟨g_24, h⟩ := g_n h
    refine va_last (f := la) hx hb hK hP hD hS 0 2 rfl rfl g_24 dX2_put_45 (fun H locs hP hD hS => ?_)
    have hP : va_P (dC, dI) vwCl (zzA ad cy ln (vp_updL la s1.toNatClampNeg s2)) H := hP
    have hD : va_D A (zzA ad cy ln (vp_updL la s1.toNatClampNeg s2)) := hD
    have h' := Option.some.inj h
    rw [← hQQ]
    exact W.vret hx hb hr (fun t ht hW => ⟨⟨(), rfl, trivial, by rw [← hWQ, ← h', ht]; exact hP, va_K.moved hW.alike hK⟩, hS.F ht⟩) hS.2.2 dX2_put_46
  intro H locs hP hD hS
  unfold f_K_put at h
  refine lv_iload_n hx hb dX2_put_0 rfl (lv_at hl 1 rfl) ?_
  refine lv_bipush (v := 6) hx hb dX2_put_1 (by decide) ?_
  refine lv_ishr hx hb dX2_put_3 ?_
  refine lv_istore_n (lv' := [(3, .int ((a1 >>> ((6 : Int32) &&& 31)))), (0, .ref (ad 0)), (1, .int a1), (2, .int a2)]) hx hb dX2_put_4 rfl hl (by decide) rfl (fun ls hl => ?_)
  refine lv_iload_n hx hb dX2_put_5 rfl (lv_at hl 0 rfl) ?_
  refine lv_if_lt (tgt := 46) hx hb dX2_put_6 (by decide) (fun cz => ?_) (fun cz => ?_)
  · have h := g_t h cz
    have h' := Option.some.inj h
    rw [← hQQ]
    exact W.vret hx hb hr (fun t ht hW => ⟨⟨(), rfl, trivial, by rw [← hWQ, ← h', ht]; exact hP, va_K.moved hW.alike hK⟩, hS.F ht⟩) hS.2.2 dX2_put_46
  · have h := g_f h cz
    refine lv_iload_n hx hb dX2_put_9 rfl (lv_at hl 0 rfl) ?_
    refine lv_aload_n hx hb dX2_put_10 rfl (lv_at hl 1 rfl) ?_
    refine va_alen (v := (Int32.ofNat ln)) hx hb hK hP 0 2 rfl rfl rfl dX2_put_11 ?_
    refine lv_icmp_ge (tgt := 46) hx hb dX2_put_12 (by decide) (fun cz => ?_) (fun cz => ?_)
    · have h := g_t h cz
      have h' := Option.some.inj h
      rw [← hQQ]
      exact W.vret hx hb hr (fun t ht hW => ⟨⟨(), rfl, trivial, by rw [← hWQ, ← h', ht]; exact hP, va_K.moved hW.alike hK⟩, hS.F ht⟩) hS.2.2 dX2_put_46
    · have h := g_f h cz
      refine lv_lconst (v := 1) hx hb dX2_put_15 (by decide) ?_
      refine lv_iload_n hx hb dX2_put_16 rfl (lv_at hl 2 rfl) ?_
      refine lv_lshl (v := ((1 : Int64) <<< ((a1).toInt64 &&& 63))) hx hb dX2_put_17 rfl ?_
      refine lv_lstore (lv' := [(4, .long (((1 : Int64) <<< ((a1).toInt64 &&& 63)))), (3, .int ((a1 >>> ((6 : Int32) &&& 31)))), (0, .ref (ad 0)), (1, .int a1), (2, .int a2)]) hx hb dX2_put_18 hl (by decide) rfl (fun ls hl => ?_)
      refine lv_aload_n hx hb dX2_put_20 rfl (lv_at hl 2 rfl) ?_
      refine lv_iload_n hx hb dX2_put_21 rfl (lv_at hl 1 rfl) ?_
      refine lv_iload_n hx hb dX2_put_22 rfl (lv_at hl 4 rfl) ?_
      refine lv_if_eq (tgt := 35) hx hb dX2_put_23 (by decide) (fun cz => ?_) (fun cz => ?_)
      · have h := g_t h cz
        refine lv_aload_n hx hb dX2_put_35 rfl (lv_at hl 2 rfl) ?_
        refine lv_iload_n hx hb dX2_put_36 rfl (lv_at hl 1 rfl) ?_
        obtain ⟨g_23, h⟩ := g_n h
        refine va_lald (f := la) hx hb hK hP 0 2 rfl rfl g_23 dX2_put_37 ?_
        refine lv_lload hx hb dX2_put_38 (lv_at hl 0 rfl) ?_
        refine lv_ldc2 (v := (-1)) hx hb hown kc88 dX2_put_40 ?_
        refine lv_lxor hx hb dX2_put_43 ?_
        refine lv_land hx hb dX2_put_44 ?_
        exact B45 ((a1 >>> ((6 : Int32) &&& 31))) (((la ((a1 >>> ((6 : Int32) &&& 31))).toNatClampNeg) &&& (((1 : Int64) <<< ((a1).toInt64 &&& 63)) ^^^ (-1 : Int64)))) H locs ls h hP hD hS (lv_sub hl [] rfl)
      · have h := g_f h cz
        refine lv_aload_n hx hb dX2_put_26 rfl (lv_at hl 2 rfl) ?_
        refine lv_iload_n hx hb dX2_put_27 rfl (lv_at hl 1 rfl) ?_
        obtain ⟨g_23, h⟩ := g_n h
        refine va_lald (f := la) hx hb hK hP 0 2 rfl rfl g_23 dX2_put_28 ?_
        refine lv_lload hx hb dX2_put_29 (lv_at hl 0 rfl) ?_
        refine lv_lor hx hb dX2_put_31 ?_
        refine lv_goto (tgt := 45) hx hb dX2_put_32 (by decide) ?_
        exact B45 ((a1 >>> ((6 : Int32) &&& 31))) (((la ((a1 >>> ((6 : Int32) &&& 31))).toNatClampNeg) ||| ((1 : Int64) <<< ((a1).toInt64 &&& 63)))) H locs ls h hP hD hS (lv_sub hl [] rfl)
