def f_K_leads_26 (N : Nat) (lK4 : Nat → Int64) (aK6 : Nat → Int32) (v3 : Int32) (v4 : Int32) : Nat → Int32 → Option Int32
  | 0, _ => none
  | n + 1, v5 => if (9 : Int32) ≤ v5 then (some (1 : Int32)) else (if ((v4 >>> (v5 &&& 31)) &&& (1 : Int32)) = (1 : Int32) then (if ((v5 * (8 : Int32)) + ((v3 >>> ((6 : Int32) &&& 31)) &&& (7 : Int32))) < 0 ∨ 72 ≤ (((v5 * (8 : Int32)) + ((v3 >>> ((6 : Int32) &&& 31)) &&& (7 : Int32)))).toNatClampNeg then none else (if (((lK4 (((v5 * (8 : Int32)) + ((v3 >>> ((6 : Int32) &&& 31)) &&& (7 : Int32)))).toNatClampNeg) >>> ((v3).toInt64 &&& 63)) &&& (1 : Int64)) = (1 : Int64) then (some (0 : Int32)) else (f_K_leads_26 N lK4 aK6 v3 v4 n ((v5 + (1 : Int32)))))) else (f_K_leads_26 N lK4 aK6 v3 v4 n ((v5 + (1 : Int32)))))
def f_K_leads (N : Nat) (a1 : Int32) (a2 : Int32) (a3 : Int32) (lK4 : Nat → Int64) (aK6 : Nat → Int32) : Option Int32 := if a2 < 0 then (some (0 : Int32)) else (if a2 < (3 : Int32) then (if a2 < 0 ∨ 3 ≤ a2.toNatClampNeg then none else (f_K_leads_26 N lK4 aK6 a3 (((aK6 a2.toNatClampNeg) &&& (a1 ^^^ (-1 : Int32)))) N ((0 : Int32)))) else (some (0 : Int32)))
set_option maxHeartbeats 8000000 in
set_option maxRecDepth 100000 in
theorem c_K_leads (l : Launch) (dC : Nat → ClassId) (dI : Nat → Nat → Nat) (cy : Nat → ClassId) (ad : Nat → Nat) (sz : Nat) (N : Nat) (a1 : Int32) (a2 : Int32) (a3 : Int32) (iK : Nat → Int32) (lK : Nat → Nat → Int64) (aK : Nat → Nat → Int32) (iB : Nat → Int32) (lB : Nat → Nat → Int64) (aB : Nat → Nat → Int32) (iC : Nat → Int32) (aC : Nat → Nat → Int32) (q : Int32) (h : f_K_leads N a1 a2 a3 (lK 4) (aK 6) = some q) : Met l yX2_leads wsX2_leads ({ frames := 0, cells := 0, slots := 0, locals := 0 } : Room) (cP (dC, dI) cy [.ref (ad 0), .int a1, .int a2, .int a3] (zzK ad cy (ad 11) (ad 18) iK lK aK iB lB aB iC aC) sz) (cQi (dC, dI) cy q (zzK ad cy (ad 11) (ad 18) iK lK aK iB lB aB iC aC) (va_A (zzK ad cy (ad 11) (ad 18) iK lK aK iB lB aB iC aC) sz)) 0 0 (va_A (zzK ad cy (ad 11) (ad 18) iK lK aK iB lB aB iC aC) sz) := by
  refine Met.ofW (cc := cX2_leads) (maxL := 6) (ret := (some .boolean)) (by decide) rfl ?_
  intro p e s m args below meth c s₁ B hml hv
  obtain ⟨hav, hsz, hP, hK, hD0, hN⟩ := hv
  have hx := B.exec
  have hb := B.bytes
  have hr := B.returns
  have hts := atoms_spec (ws := wsX2_leads) B.pre
  have hown : s.vm.findClass RX2 = some m.cls := findClass_of_methodNamed B.named
  have hlocks := B.notSynchronized
  subst hsz
  have hD := hD0.self (sz := s.heap.size)
  generalize hAe : va_A (zzK ad cy (ad 11) (ad 18) iK lK aK iB lB aB iC aC) s.heap.size = A at hD ⊢
  have hA : ∀ q : Nat, s.heap.size ≤ q → A q := fun q h => by rw [← hAe]; exact Or.inr h
  have hS : va_S A s.heap s.heap [] := va_S.rf
  generalize hWQ : (zzK ad cy (ad 11) (ad 18) iK lK aK iB lB aB iC aC) = WQ
  generalize hQQ : MQ below (cQi (dC, dI) cy q WQ A) args s 0 0 A = QQ
  have hl := lv_entry ([.ref (ad 0), .int a1, .int a2, .int a3] : List Value) (n := 6) (Nat.le_of_ble_eq_true rfl)
  have hfr := lg_entry_eq m ([.ref (ad 0), .int a1, .int a2, .int a3] : List Value) 6
  rw [← hav] at hfr
  rw [hfr]
  clear hfr hav
  generalize (lg_sl ([.ref (ad 0), .int a1, .int a2, .int a3] : List Value) ++ List.replicate (6 - (lg_sl ([.ref (ad 0), .int a1, .int a2, .int a3] : List Value)).length) Slot.unset).toArray = ls at hl ⊢
  have hl : lv_has ls 6 [(0, .ref (ad 0)), (1, .int a1), (2, .int a2), (3, .int a3)] := hl
  have kf15 := hts _ (List.mem_cons_of_mem _ m_fl_X2_15)
  have ki2 := (fun w h => List.mem_cons_of_mem _ (i_X2 w h) : ∀ w ∈ u_ws RX2 TX2 15, w ∈ wsX2_leads)
  have kf22 := hts _ (List.mem_cons_of_mem _ m_fl_X2_22)
  refine (?_ : ∀ (H : Heap) (locs : List Loc), va_P (dC, dI) vwCl (zzK ad cy (ad 11) (ad 18) iK lK aK iB lB aB iC aC) H → va_D A (zzK ad cy (ad 11) (ad 18) iK lK aK iB lB aB iC aC) → va_S A s.heap H locs → W p l e ({ frames := 0, cells := 0, slots := 0, locals := 0 } : Room) s m args below meth c H locs 0 0 QQ (F0 m 0 ls [])) s.heap [] hP hD hS
  clear hP hD hS
  have B26 : ∀ (n : Nat) (v3 : Int32) (v4 : Int32) (v5 : Int32) (H : Heap) (locs : List Loc) (ls : Array Slot), f_K_leads_26 N (lK 4) (aK 6) v3 v4 n v5 = some q → va_P (dC, dI) vwCl (zzK ad cy (ad 11) (ad 18) iK lK aK iB lB aB iC aC) H → va_D A (zzK ad cy (ad 11) (ad 18) iK lK aK iB lB aB iC aC) → va_S A s.heap H locs → lv_has ls 6 [(0, .ref (ad 0)), (3, .int v3), (4, .int v4), (5, .int v5)] → W p l e ({ frames := 0, cells := 0, slots := 0, locals := 0 } : Room) s m args below meth c H locs 0 0 QQ (F0 m 26 ls []) := by
    intro n
    induction n with
    | zero =>
      intro v3 v4 v5 H locs ls h hP hD hS hl
      rw [f_K_leads_26] at h
      cases h
    | succ n ih =>
      intro v3 v4 v5 H locs ls h hP hD hS hl
      rw [f_K_leads_26] at h
      refine lv_iload hx hb dX2_leads_26 (lv_at hl 3 rfl) ?_
      refine lv_bipush (v := 9) hx hb dX2_leads_28 (by decide) ?_
      refine lv_icmp_ge (tgt := 79) hx hb dX2_leads_30 (by decide) (fun cz => ?_) (fun cz => ?_)
      · have h := g_t h cz
        refine lv_iconst (v := 1) hx hb dX2_leads_79 (by decide) ?_
        have h' := Option.some.inj h
        rw [← hQQ]
        exact W.zret (v := (1 : Int32)) hx hb hr rfl (fun t ht hW => ⟨⟨(1 : Int32), (), rfl, by rw [← h'], by rw [← hWQ, ht]; exact hP, va_K.moved hW.alike hK⟩, hS.F ht⟩) hS.2.2 dX2_leads_80
      · have h := g_f h cz
        refine lv_iload hx hb dX2_leads_33 (lv_at hl 2 rfl) ?_
        refine lv_iload hx hb dX2_leads_35 (lv_at hl 3 rfl) ?_
        refine lv_ishr hx hb dX2_leads_37 ?_
        refine lv_iconst (v := 1) hx hb dX2_leads_38 (by decide) ?_
        refine lv_iand hx hb dX2_leads_39 ?_
        refine lv_iconst (v := 1) hx hb dX2_leads_40 (by decide) ?_
        refine lv_icmp_ne (tgt := 73) hx hb dX2_leads_41 (by decide) (fun cz => ?_) (fun cz => ?_)
        · have h := g_f h cz
          refine lv_iinc (v := (v5 + (1 : Int32))) (lv' := [(5, .int ((v5 + (1 : Int32)))), (0, .ref (ad 0)), (3, .int v3), (4, .int v4)]) hx hb dX2_leads_73 hl (k := 3) rfl rfl (by decide) rfl (fun ls hl => ?_)
          refine lv_goto (tgt := 26) hx hb dX2_leads_76 (by decide) ?_
          exact ih v3 v4 ((v5 + (1 : Int32))) H locs ls h hP hD hS (lv_sub hl [1, 2, 3, 0] rfl)
        · have h := g_t h cz
          refine lv_aload_n hx hb dX2_leads_44 rfl (lv_at hl 0 rfl) ?_
          refine va_get (D := (dC, dI)) (ci := 2) (v := .ref (ad 2)) (C := RX2) (T := TX2) (N := 15) hx hb hts ki2 hown hK hP 0 rfl rfl 4 (by decide) kf15 (fun _ h9 => h9) rfl dX2_leads_45 ?_
          refine lv_iload hx hb dX2_leads_48 (lv_at hl 3 rfl) ?_
          refine lv_bipush (v := 8) hx hb dX2_leads_50 (by decide) ?_
          refine lv_imul hx hb dX2_leads_52 ?_
          refine lv_iload_n hx hb dX2_leads_53 rfl (lv_at hl 1 rfl) ?_
          refine lv_bipush (v := 6) hx hb dX2_leads_54 (by decide) ?_
          refine lv_ishr hx hb dX2_leads_56 ?_
          refine lv_bipush (v := 7) hx hb dX2_leads_57 (by decide) ?_
          refine lv_iand hx hb dX2_leads_59 ?_
          refine lv_iadd hx hb dX2_leads_60 ?_
          obtain ⟨g_35, h⟩ := g_n h
          refine va_lald (f := (lK 4)) hx hb hK hP 2 2 rfl rfl g_35 dX2_leads_61 ?_
          refine lv_iload_n hx hb dX2_leads_62 rfl (lv_at hl 1 rfl) ?_
          refine lv_lshr (v := (((lK 4) (((v5 * (8 : Int32)) + ((v3 >>> ((6 : Int32) &&& 31)) &&& (7 : Int32)))).toNatClampNeg) >>> ((v3).toInt64 &&& 63))) hx hb dX2_leads_63 rfl ?_
          refine lv_lconst (v := 1) hx hb dX2_leads_64 (by decide) ?_
          refine lv_land hx hb dX2_leads_65 ?_
          refine lv_lconst (v := 1) hx hb dX2_leads_66 (by decide) ?_
          refine W.lcmp hx hb dX2_leads_67 ?_
          refine lv_if_ne (tgt := 73) hx hb dX2_leads_68 (by decide) (fun cz => ?_) (fun cz => ?_)
          · have h := g_f h (fun z => cz (lg_cmp0.mpr z))
            refine lv_iinc (v := (v5 + (1 : Int32))) (lv' := [(5, .int ((v5 + (1 : Int32)))), (0, .ref (ad 0)), (3, .int v3), (4, .int v4)]) hx hb dX2_leads_73 hl (k := 3) rfl rfl (by decide) rfl (fun ls hl => ?_)
            refine lv_goto (tgt := 26) hx hb dX2_leads_76 (by decide) ?_
            exact ih v3 v4 ((v5 + (1 : Int32))) H locs ls h hP hD hS (lv_sub hl [1, 2, 3, 0] rfl)
          · have h := g_t h (lg_cmp0.mp cz)
            refine lv_iconst (v := 0) hx hb dX2_leads_71 (by decide) ?_
            have h' := Option.some.inj h
            rw [← hQQ]
            exact W.zret (v := (0 : Int32)) hx hb hr rfl (fun t ht hW => ⟨⟨(0 : Int32), (), rfl, by rw [← h'], by rw [← hWQ, ht]; exact hP, va_K.moved hW.alike hK⟩, hS.F ht⟩) hS.2.2 dX2_leads_72
  intro H locs hP hD hS
  unfold f_K_leads at h
  refine lv_iload_n hx hb dX2_leads_0 rfl (lv_at hl 2 rfl) ?_
  refine lv_if_lt (tgt := 9) hx hb dX2_leads_1 (by decide) (fun cz => ?_) (fun cz => ?_)
  · have h := g_t h cz
    refine lv_iconst (v := 0) hx hb dX2_leads_9 (by decide) ?_
    have h' := Option.some.inj h
    rw [← hQQ]
    exact W.zret (v := (0 : Int32)) hx hb hr rfl (fun t ht hW => ⟨⟨(0 : Int32), (), rfl, by rw [← h'], by rw [← hWQ, ht]; exact hP, va_K.moved hW.alike hK⟩, hS.F ht⟩) hS.2.2 dX2_leads_10
  · have h := g_f h cz
    refine lv_iload_n hx hb dX2_leads_4 rfl (lv_at hl 2 rfl) ?_
    refine lv_iconst (v := 3) hx hb dX2_leads_5 (by decide) ?_
    refine lv_icmp_lt (tgt := 11) hx hb dX2_leads_6 (by decide) (fun cz => ?_) (fun cz => ?_)
    · have h := g_t h cz
      refine lv_aload_n hx hb dX2_leads_11 rfl (lv_at hl 0 rfl) ?_
      refine va_get (D := (dC, dI)) (ci := 2) (v := .ref (ad 4)) (C := RX2) (T := TX2) (N := 15) hx hb hts ki2 hown hK hP 0 rfl rfl 6 (by decide) kf22 (fun _ h9 => h9) rfl dX2_leads_12 ?_
      refine lv_iload_n hx hb dX2_leads_15 rfl (lv_at hl 2 rfl) ?_
      obtain ⟨g_36, h⟩ := g_n h
      refine va_iald (f := (aK 6)) hx hb hK hP 4 0 rfl rfl g_36 dX2_leads_16 ?_
      refine lv_iload_n hx hb dX2_leads_17 rfl (lv_at hl 1 rfl) ?_
      refine lv_iconst (v := (-1)) hx hb dX2_leads_18 (by decide) ?_
      refine lv_ixor hx hb dX2_leads_19 ?_
      refine lv_iand hx hb dX2_leads_20 ?_
      refine lv_istore (lv' := [(4, .int ((((aK 6) a2.toNatClampNeg) &&& (a1 ^^^ (-1 : Int32))))), (0, .ref (ad 0)), (1, .int a1), (2, .int a2), (3, .int a3)]) hx hb dX2_leads_21 hl (by decide) rfl (fun ls hl => ?_)
      refine lv_iconst (v := 0) hx hb dX2_leads_23 (by decide) ?_
      refine lv_istore (lv' := [(5, .int ((0 : Int32))), (4, .int ((((aK 6) a2.toNatClampNeg) &&& (a1 ^^^ (-1 : Int32))))), (0, .ref (ad 0)), (1, .int a1), (2, .int a2), (3, .int a3)]) hx hb dX2_leads_24 hl (by decide) rfl (fun ls hl => ?_)
      exact B26 N a3 ((((aK 6) a2.toNatClampNeg) &&& (a1 ^^^ (-1 : Int32)))) ((0 : Int32)) H locs ls h hP hD hS (lv_sub hl [2, 5, 1, 0] rfl)
    · have h := g_f h cz
      refine lv_iconst (v := 0) hx hb dX2_leads_9 (by decide) ?_
      have h' := Option.some.inj h
      rw [← hQQ]
      exact W.zret (v := (0 : Int32)) hx hb hr rfl (fun t ht hW => ⟨⟨(0 : Int32), (), rfl, by rw [← h'], by rw [← hWQ, ht]; exact hP, va_K.moved hW.alike hK⟩, hS.F ht⟩) hS.2.2 dX2_leads_10
