def f_K_implies_2 (N : Nat) (lK3 : Nat → Int64) (lK9 : Nat → Int64) (v1 : Int32) (v2 : Int32) : Nat → Int32 → Option Int32
  | 0, _ => none
  | n + 1, v3 => if (8 : Int32) ≤ v3 then (some (1 : Int32)) else (if v3 < 0 ∨ 8 ≤ v3.toNatClampNeg then none else ((f_K_truthOf v1 v3 lK3).bind fun q17 => ((f_K_truthOf v2 v3 lK3).bind fun q24 => (if (((lK9 v3.toNatClampNeg) &&& q17) &&& (q24 ^^^ (-1 : Int64))) = (0 : Int64) then (f_K_implies_2 N lK3 lK9 v1 v2 n ((v3 + (1 : Int32)))) else (some (0 : Int32))))))
def f_K_implies (N : Nat) (a1 : Int32) (a2 : Int32) (lK3 : Nat → Int64) (lK9 : Nat → Int64) : Option Int32 := f_K_implies_2 N lK3 lK9 a1 a2 N ((0 : Int32))
set_option maxHeartbeats 8000000 in
set_option maxRecDepth 100000 in
theorem c_K_implies (l : Launch) (dC : Nat → ClassId) (dI : Nat → Nat → Nat) (cy : Nat → ClassId) (ad : Nat → Nat) (sz : Nat) (N : Nat) (a1 : Int32) (a2 : Int32) (iK : Nat → Int32) (lK : Nat → Nat → Int64) (aK : Nat → Nat → Int32) (iB : Nat → Int32) (lB : Nat → Nat → Int64) (aB : Nat → Nat → Int32) (iC : Nat → Int32) (aC : Nat → Nat → Int32) (q : Int32) (h : f_K_implies N a1 a2 (lK 3) (lK 9) = some q) : Met l yX2_implies wsX2_implies ({ frames := 1, cells := 0, slots := 0, locals := 22 } : Room) (cP (dC, dI) cy [.ref (ad 0), .int a1, .int a2] (zzK ad cy (ad 11) (ad 18) iK lK aK iB lB aB iC aC) sz) (cQi (dC, dI) cy q (zzK ad cy (ad 11) (ad 18) iK lK aK iB lB aB iC aC) (va_A (zzK ad cy (ad 11) (ad 18) iK lK aK iB lB aB iC aC) sz)) 0 0 (va_A (zzK ad cy (ad 11) (ad 18) iK lK aK iB lB aB iC aC) sz) := by
  refine Met.ofW (cc := cX2_implies) (maxL := 4) (ret := (some .boolean)) (by decide) rfl ?_
  intro p e s m args below meth c s₁ B hml hv
  obtain ⟨hav, hsz, hP, hK, hD0, hN⟩ := hv
  have hx := B.exec
  have hb := B.bytes
  have hr := B.returns
  have hts := atoms_spec (ws := wsX2_implies) B.pre
  have hown : s.vm.findClass RX2 = some m.cls := findClass_of_methodNamed B.named
  have hlocks := B.notSynchronized
  subst hsz
  have hD := hD0.self (sz := s.heap.size)
  generalize hAe : va_A (zzK ad cy (ad 11) (ad 18) iK lK aK iB lB aB iC aC) s.heap.size = A at hD ⊢
  have hA : ∀ q : Nat, s.heap.size ≤ q → A q := fun q h => by rw [← hAe]; exact Or.inr h
  have hS : va_S A s.heap s.heap [] := va_S.rf
  generalize hWQ : (zzK ad cy (ad 11) (ad 18) iK lK aK iB lB aB iC aC) = WQ
  generalize hQQ : MQ below (cQi (dC, dI) cy q WQ A) args s 0 0 A = QQ
  have hl := lv_entry ([.ref (ad 0), .int a1, .int a2] : List Value) (n := 4) (Nat.le_of_ble_eq_true rfl)
  have hfr := lg_entry_eq m ([.ref (ad 0), .int a1, .int a2] : List Value) 4
  rw [← hav] at hfr
  rw [hfr]
  clear hfr hav
  generalize (lg_sl ([.ref (ad 0), .int a1, .int a2] : List Value) ++ List.replicate (4 - (lg_sl ([.ref (ad 0), .int a1, .int a2] : List Value)).length) Slot.unset).toArray = ls at hl ⊢
  have hl : lv_has ls 4 [(0, .ref (ad 0)), (1, .int a1), (2, .int a2)] := hl
  have kf28 := hts _ (List.mem_cons_of_mem _ m_fl_X2_28)
  have ki2 := (fun w h => List.mem_cons_of_mem _ (i_X2 w h) : ∀ w ∈ u_ws RX2 TX2 15, w ∈ wsX2_implies)
  have kc88 := hts _ (List.mem_cons_of_mem _ m_kl_X2_88)
  refine (?_ : ∀ (H : Heap) (locs : List Loc), va_P (dC, dI) vwCl (zzK ad cy (ad 11) (ad 18) iK lK aK iB lB aB iC aC) H → va_D A (zzK ad cy (ad 11) (ad 18) iK lK aK iB lB aB iC aC) → va_S A s.heap H locs → W p l e ({ frames := 1, cells := 0, slots := 0, locals := 22 } : Room) s m args below meth c H locs 0 0 QQ (F0 m 0 ls [])) s.heap [] hP hD hS
  clear hP hD hS
  have B2 : ∀ (n : Nat) (v1 : Int32) (v2 : Int32) (v3 : Int32) (H : Heap) (locs : List Loc) (ls : Array Slot), f_K_implies_2 N (lK 3) (lK 9) v1 v2 n v3 = some q → va_P (dC, dI) vwCl (zzK ad cy (ad 11) (ad 18) iK lK aK iB lB aB iC aC) H → va_D A (zzK ad cy (ad 11) (ad 18) iK lK aK iB lB aB iC aC) → va_S A s.heap H locs → lv_has ls 4 [(0, .ref (ad 0)), (1, .int v1), (2, .int v2), (3, .int v3)] → W p l e ({ frames := 1, cells := 0, slots := 0, locals := 22 } : Room) s m args below meth c H locs 0 0 QQ (F0 m 2 ls []) := by
    intro n
    induction n with
    | zero =>
      intro v1 v2 v3 H locs ls h hP hD hS hl
      rw [f_K_implies_2] at h
      cases h
    | succ n ih =>
      intro v1 v2 v3 H locs ls h hP hD hS hl
      rw [f_K_implies_2] at h
      refine lv_iload_n hx hb dX2_implies_2 rfl (lv_at hl 3 rfl) ?_
      refine lv_bipush (v := 8) hx hb dX2_implies_3 (by decide) ?_
      refine lv_icmp_ge (tgt := 45) hx hb dX2_implies_5 (by decide) (fun cz => ?_) (fun cz => ?_)
      · have h := g_t h cz
        refine lv_iconst (v := 1) hx hb dX2_implies_45 (by decide) ?_
        have h' := Option.some.inj h
        rw [← hQQ]
        exact W.zret (v := (1 : Int32)) hx hb hr rfl (fun t ht hW => ⟨⟨(1 : Int32), (), rfl, by rw [← h'], by rw [← hWQ, ht]; exact hP, va_K.moved hW.alike hK⟩, hS.F ht⟩) hS.2.2 dX2_implies_46
      · have h := g_f h cz
        refine lv_aload_n hx hb dX2_implies_8 rfl (lv_at hl 0 rfl) ?_
        refine va_get (D := (dC, dI)) (ci := 2) (v := .ref (ad 6)) (C := RX2) (T := TX2) (N := 15) hx hb hts ki2 hown hK hP 0 rfl rfl 9 (by decide) kf28 (fun _ h9 => h9) rfl dX2_implies_9 ?_
        refine lv_iload_n hx hb dX2_implies_12 rfl (lv_at hl 3 rfl) ?_
        obtain ⟨g_22, h⟩ := g_n h
        refine va_lald (f := (lK 9)) hx hb hK hP 6 2 rfl rfl g_22 dX2_implies_13 ?_
        refine lv_aload_n hx hb dX2_implies_14 rfl (lv_at hl 0 rfl) ?_
        refine lv_iload_n hx hb dX2_implies_15 rfl (lv_at hl 1 rfl) ?_
        refine lv_iload_n hx hb dX2_implies_16 rfl (lv_at hl 3 rfl) ?_
        obtain ⟨q17, e17, h⟩ := g_b h
        refine callVls (cc := cX2_implies) (w1 := zzK ad cy (ad 11) (ad 18) iK lK aK iB lB aB iC aC) (As := [.int v1, .int v3]) (rest := [.long (((lK 9) v3.toNatClampNeg))]) ⟨hx, hb, hml, hown, hts⟩ (c_K_truthOf l dC dI cy ad H.size v1 v3 iK lK aK iB lB aB iC aC q17 e17) (cwV 2 hts (goodV m_ml_X2_81 m_im_X2_truthOf m_se_X2_truthOf m_in_X2 m_cd_X2_truthOf) rfl rfl rfl (by decide +kernel) ⟨Nat.le_of_ble_eq_true rfl, Nat.le_of_ble_eq_true rfl⟩) hN hK hP hD hS hA rfl 0 rfl rfl rfl hl.1 rfl (Nat.le_of_ble_eq_true rfl) dX2_implies_17 ⟨Nat.zero_le _, Nat.zero_le _⟩ (fun H locs hP hD hS => ?_)
        refine lv_land hx hb dX2_implies_20 ?_
        refine lv_aload_n hx hb dX2_implies_21 rfl (lv_at hl 0 rfl) ?_
        refine lv_iload_n hx hb dX2_implies_22 rfl (lv_at hl 2 rfl) ?_
        refine lv_iload_n hx hb dX2_implies_23 rfl (lv_at hl 3 rfl) ?_
        obtain ⟨q24, e24, h⟩ := g_b h
        refine callVls (cc := cX2_implies) (w1 := zzK ad cy (ad 11) (ad 18) iK lK aK iB lB aB iC aC) (As := [.int v2, .int v3]) (rest := [.long ((((lK 9) v3.toNatClampNeg) &&& q17))]) ⟨hx, hb, hml, hown, hts⟩ (c_K_truthOf l dC dI cy ad H.size v2 v3 iK lK aK iB lB aB iC aC q24 e24) (cwV 2 hts (goodV m_ml_X2_81 m_im_X2_truthOf m_se_X2_truthOf m_in_X2 m_cd_X2_truthOf) rfl rfl rfl (by decide +kernel) ⟨Nat.le_of_ble_eq_true rfl, Nat.le_of_ble_eq_true rfl⟩) hN hK hP hD hS hA rfl 0 rfl rfl rfl hl.1 rfl (Nat.le_of_ble_eq_true rfl) dX2_implies_24 ⟨Nat.zero_le _, Nat.zero_le _⟩ (fun H locs hP hD hS => ?_)
        refine lv_ldc2 (v := (-1)) hx hb hown kc88 dX2_implies_27 ?_
        refine lv_lxor hx hb dX2_implies_30 ?_
        refine lv_land hx hb dX2_implies_31 ?_
        refine lv_lconst (v := 0) hx hb dX2_implies_32 (by decide) ?_
        refine W.lcmp hx hb dX2_implies_33 ?_
        refine lv_if_eq (tgt := 39) hx hb dX2_implies_34 (by decide) (fun cz => ?_) (fun cz => ?_)
        · have h := g_t h (lg_cmp0.mp cz)
          refine lv_iinc (v := (v3 + (1 : Int32))) (lv' := [(3, .int ((v3 + (1 : Int32)))), (0, .ref (ad 0)), (1, .int v1), (2, .int v2)]) hx hb dX2_implies_39 hl (k := 3) rfl rfl (by decide) rfl (fun ls hl => ?_)
          refine lv_goto (tgt := 2) hx hb dX2_implies_42 (by decide) ?_
          exact ih v1 v2 ((v3 + (1 : Int32))) H locs ls h hP hD hS (lv_sub hl [1, 2, 3, 0] rfl)
        · have h := g_f h (fun z => cz (lg_cmp0.mpr z))
          refine lv_iconst (v := 0) hx hb dX2_implies_37 (by decide) ?_
          have h' := Option.some.inj h
          rw [← hQQ]
          exact W.zret (v := (0 : Int32)) hx hb hr rfl (fun t ht hW => ⟨⟨(0 : Int32), (), rfl, by rw [← h'], by rw [← hWQ, ht]; exact hP, va_K.moved hW.alike hK⟩, hS.F ht⟩) hS.2.2 dX2_implies_38
  intro H locs hP hD hS
  unfold f_K_implies at h
  refine lv_iconst (v := 0) hx hb dX2_implies_0 (by decide) ?_
  refine lv_istore_n (lv' := [(3, .int ((0 : Int32))), (0, .ref (ad 0)), (1, .int a1), (2, .int a2)]) hx hb dX2_implies_1 rfl hl (by decide) rfl (fun ls hl => ?_)
  exact B2 N a1 a2 ((0 : Int32)) H locs ls h hP hD hS (lv_sub hl [1, 2, 3, 0] rfl)
