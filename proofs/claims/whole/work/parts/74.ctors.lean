/-! ===== constructors of one object and its arrays ===== -/
section KCL
variable (l : Launch) (d : Nat)
def Ps3 (cs : vq_S) (h0 : Nat) (fs : List Value) (tl : va_W) : Prop := ∃ q0 q1 q2 : Nat, fs = [.ref q0, .ref q1, .ref q2, .int 0, .int 0] ∧ tl = [(q0, zI cs 24), (q1, zI cs 24), (q2, zI cs 24)]
set_option maxHeartbeats 2000000 in
theorem k_init3 (hd : 1 ≤ d) : KC l m_X3_init d 3 72 3 [.null, .null, .null, .int 0, .int 0] [] Ps3 := by
  refine KC_of (fun h0 => [(0, .ref h0)]) (by decide) rfl rfl (fun h0 => Nat.le_of_ble_eq_true rfl) (fun h0 => rfl) ?_
  intro p e s m args below meth c h0 cs D A ls C hr hlk hin hP hD hS hl
  refine lv_aload_n C.1 C.2.1 dX3_init_0 rfl (lv_at hl 0 rfl) ?_
  refine kn_obj C hl.1 kX3_1 im_objectInit cd_objectInit dX3_init_1 (by show 1 ≤ d; omega) (by show 0 + 12 ≤ 64 * d; omega) ?_
  refine lv_aload_n C.1 C.2.1 dX3_init_4 rfl (lv_at hl 0 rfl) ?_
  refine lv_bipush (v := 24) C.1 C.2.1 dX3_init_5 rfl ?_
  refine kn_newI C hP hD hS 24 (by decide) rfl (by decide) (Nat.le_of_ble_eq_true rfl) (Nat.le_of_ble_eq_true rfl) dX3_init_7 (fun q0 H hP hD hS => ?_)
  refine kn_putF (ty := vq_tyf 3 0) 0 3 0 (by decide) C hin hP hD hS rfl (by decide) rfl rfl rfl rfl rfl (Nat.le_of_ble_eq_true rfl) (inWS f_X3_9) dX3_init_9 (fun H locs hP hD hS => ?_)
  have hP : va_P D vwCl [(h0, .inr (3, [.ref q0, .null, .null, .int 0, .int 0])), (q0, zI cs 24)] H := hP
  have hD : va_D A [(h0, .inr (3, [.ref q0, .null, .null, .int 0, .int 0])), (q0, zI cs 24)] := hD
  refine lv_aload_n C.1 C.2.1 dX3_init_12 rfl (lv_at hl 0 rfl) ?_
  refine lv_bipush (v := 24) C.1 C.2.1 dX3_init_13 rfl ?_
  refine kn_newI C hP hD hS 24 (by decide) rfl (by decide) (Nat.le_of_ble_eq_true rfl) (Nat.le_of_ble_eq_true rfl) dX3_init_15 (fun q1 H hP hD hS => ?_)
  refine kn_putF (ty := vq_tyf 3 1) 0 3 1 (by decide) C hin hP hD hS rfl (by decide) rfl rfl rfl rfl rfl (Nat.le_of_ble_eq_true rfl) (inWS f_X3_13) dX3_init_17 (fun H locs hP hD hS => ?_)
  have hP : va_P D vwCl [(h0, .inr (3, [.ref q0, .ref q1, .null, .int 0, .int 0])), (q0, zI cs 24), (q1, zI cs 24)] H := hP
  have hD : va_D A [(h0, .inr (3, [.ref q0, .ref q1, .null, .int 0, .int 0])), (q0, zI cs 24), (q1, zI cs 24)] := hD
  refine lv_aload_n C.1 C.2.1 dX3_init_20 rfl (lv_at hl 0 rfl) ?_
  refine lv_bipush (v := 24) C.1 C.2.1 dX3_init_21 rfl ?_
  refine kn_newI C hP hD hS 24 (by decide) rfl (by decide) (Nat.le_of_ble_eq_true rfl) (Nat.le_of_ble_eq_true rfl) dX3_init_23 (fun q2 H hP hD hS => ?_)
  refine kn_putF (ty := vq_tyf 3 2) 0 3 2 (by decide) C hin hP hD hS rfl (by decide) rfl rfl rfl rfl rfl (Nat.le_of_ble_eq_true rfl) (inWS f_X3_16) dX3_init_25 (fun H locs hP hD hS => ?_)
  have hP : va_P D vwCl [(h0, .inr (3, [.ref q0, .ref q1, .ref q2, .int 0, .int 0])), (q0, zI cs 24), (q1, zI cs 24), (q2, zI cs 24)] H := hP
  have hD : va_D A [(h0, .inr (3, [.ref q0, .ref q1, .ref q2, .int 0, .int 0])), (q0, zI cs 24), (q1, zI cs 24), (q2, zI cs 24)] := hD
  exact kn_ret (tl := [(q0, zI cs 24), (q1, zI cs 24), (q2, zI cs 24)]) C hr hlk dX3_init_28 (Nat.le_refl _) (Nat.le_refl _) hP hD hS ⟨q0, q1, q2, rfl, rfl⟩
def Ps7 (cs : vq_S) (h0 : Nat) (fs : List Value) (tl : va_W) : Prop := ∃ q0 q1 q2 : Nat, fs = [.ref q0, .ref q1, .ref q2, .int 0] ∧ tl = [(q0, zI cs 24), (q1, zI cs 24), (q2, zL cs 24)]
set_option maxHeartbeats 2000000 in
theorem k_init7 (hd : 1 ≤ d) : KC l m_X7_init d 3 72 7 [.null, .null, .null, .int 0] [] Ps7 := by
  refine KC_of (fun h0 => [(0, .ref h0)]) (by decide) rfl rfl (fun h0 => Nat.le_of_ble_eq_true rfl) (fun h0 => rfl) ?_
  intro p e s m args below meth c h0 cs D A ls C hr hlk hin hP hD hS hl
  refine lv_aload_n C.1 C.2.1 dX7_init_0 rfl (lv_at hl 0 rfl) ?_
  refine kn_obj C hl.1 kX7_3 im_objectInit cd_objectInit dX7_init_1 (by show 1 ≤ d; omega) (by show 0 + 12 ≤ 64 * d; omega) ?_
  refine lv_aload_n C.1 C.2.1 dX7_init_4 rfl (lv_at hl 0 rfl) ?_
  refine lv_bipush (v := 24) C.1 C.2.1 dX7_init_5 rfl ?_
  refine kn_newI C hP hD hS 24 (by decide) rfl (by decide) (Nat.le_of_ble_eq_true rfl) (Nat.le_of_ble_eq_true rfl) dX7_init_7 (fun q0 H hP hD hS => ?_)
  refine kn_putF (ty := vq_tyf 7 0) 0 7 0 (by decide) C hin hP hD hS rfl (by decide) rfl rfl rfl rfl rfl (Nat.le_of_ble_eq_true rfl) (inWS f_X7_11) dX7_init_9 (fun H locs hP hD hS => ?_)
  have hP : va_P D vwCl [(h0, .inr (7, [.ref q0, .null, .null, .int 0])), (q0, zI cs 24)] H := hP
  have hD : va_D A [(h0, .inr (7, [.ref q0, .null, .null, .int 0])), (q0, zI cs 24)] := hD
  refine lv_aload_n C.1 C.2.1 dX7_init_12 rfl (lv_at hl 0 rfl) ?_
  refine lv_bipush (v := 24) C.1 C.2.1 dX7_init_13 rfl ?_
  refine kn_newI C hP hD hS 24 (by decide) rfl (by decide) (Nat.le_of_ble_eq_true rfl) (Nat.le_of_ble_eq_true rfl) dX7_init_15 (fun q1 H hP hD hS => ?_)
  refine kn_putF (ty := vq_tyf 7 1) 0 7 1 (by decide) C hin hP hD hS rfl (by decide) rfl rfl rfl rfl rfl (Nat.le_of_ble_eq_true rfl) (inWS f_X7_15) dX7_init_17 (fun H locs hP hD hS => ?_)
  have hP : va_P D vwCl [(h0, .inr (7, [.ref q0, .ref q1, .null, .int 0])), (q0, zI cs 24), (q1, zI cs 24)] H := hP
  have hD : va_D A [(h0, .inr (7, [.ref q0, .ref q1, .null, .int 0])), (q0, zI cs 24), (q1, zI cs 24)] := hD
  refine lv_aload_n C.1 C.2.1 dX7_init_20 rfl (lv_at hl 0 rfl) ?_
  refine lv_bipush (v := 24) C.1 C.2.1 dX7_init_21 rfl ?_
  refine kn_newL C hP hD hS 24 (by decide) rfl (by decide) (Nat.le_of_ble_eq_true rfl) (Nat.le_of_ble_eq_true rfl) dX7_init_23 (fun q2 H hP hD hS => ?_)
  refine kn_putF (ty := vq_tyf 7 2) 0 7 2 (by decide) C hin hP hD hS rfl (by decide) rfl rfl rfl rfl rfl (Nat.le_of_ble_eq_true rfl) (inWS f_X7_18) dX7_init_25 (fun H locs hP hD hS => ?_)
  have hP : va_P D vwCl [(h0, .inr (7, [.ref q0, .ref q1, .ref q2, .int 0])), (q0, zI cs 24), (q1, zI cs 24), (q2, zL cs 24)] H := hP
  have hD : va_D A [(h0, .inr (7, [.ref q0, .ref q1, .ref q2, .int 0])), (q0, zI cs 24), (q1, zI cs 24), (q2, zL cs 24)] := hD
  exact kn_ret (tl := [(q0, zI cs 24), (q1, zI cs 24), (q2, zL cs 24)]) C hr hlk dX7_init_28 (Nat.le_refl _) (Nat.le_refl _) hP hD hS ⟨q0, q1, q2, rfl, rfl⟩
def Ps8 (cs : vq_S) (h0 : Nat) (fs : List Value) (tl : va_W) : Prop := ∃ q0 : Nat, fs = [.ref q0, .int 0] ∧ tl = [(q0, zI cs 900)]
set_option maxHeartbeats 2000000 in
theorem k_init8 (hd : 1 ≤ d) : KC l m_X8_init d 1 900 8 [.null, .int 0] [] Ps8 := by
  refine KC_of (fun h0 => [(0, .ref h0)]) (by decide) rfl rfl (fun h0 => Nat.le_of_ble_eq_true rfl) (fun h0 => rfl) ?_
  intro p e s m args below meth c h0 cs D A ls C hr hlk hin hP hD hS hl
  refine lv_aload_n C.1 C.2.1 dX8_init_0 rfl (lv_at hl 0 rfl) ?_
  refine kn_obj C hl.1 kX8_1 im_objectInit cd_objectInit dX8_init_1 (by show 1 ≤ d; omega) (by show 0 + 12 ≤ 64 * d; omega) ?_
  refine lv_aload_n C.1 C.2.1 dX8_init_4 rfl (lv_at hl 0 rfl) ?_
  refine lv_sipush (v := 900) C.1 C.2.1 dX8_init_5 rfl ?_
  refine kn_newI C hP hD hS 900 (by decide) rfl (by decide) (Nat.le_of_ble_eq_true rfl) (Nat.le_of_ble_eq_true rfl) dX8_init_8 (fun q0 H hP hD hS => ?_)
  refine kn_putF (ty := vq_tyf 8 0) 0 8 0 (by decide) C hin hP hD hS rfl (by decide) rfl rfl rfl rfl rfl (Nat.le_of_ble_eq_true rfl) (inWS f_X8_9) dX8_init_10 (fun H locs hP hD hS => ?_)
  have hP : va_P D vwCl [(h0, .inr (8, [.ref q0, .int 0])), (q0, zI cs 900)] H := hP
  have hD : va_D A [(h0, .inr (8, [.ref q0, .int 0])), (q0, zI cs 900)] := hD
  exact kn_ret (tl := [(q0, zI cs 900)]) C hr hlk dX8_init_13 (Nat.le_refl _) (Nat.le_refl _) hP hD hS ⟨q0, rfl, rfl⟩
def Ps6 (cs : vq_S) (h0 : Nat) (fs : List Value) (tl : va_W) : Prop := ∃ q0 q1 q2 q3 : Nat, fs = [.ref q0, .ref q1, .ref q2, .ref q3, .int 0] ∧ tl = [(q0, zI cs 24), (q1, zI cs 192), (q2, zI cs 192), (q3, zI cs 192)]
set_option maxHeartbeats 2000000 in
theorem k_init6 (hd : 1 ≤ d) : KC l m_X6_init d 4 600 6 [.null, .null, .null, .null, .int 0] [] Ps6 := by
  refine KC_of (fun h0 => [(0, .ref h0)]) (by decide) rfl rfl (fun h0 => Nat.le_of_ble_eq_true rfl) (fun h0 => rfl) ?_
  intro p e s m args below meth c h0 cs D A ls C hr hlk hin hP hD hS hl
  refine lv_aload_n C.1 C.2.1 dX6_init_0 rfl (lv_at hl 0 rfl) ?_
  refine kn_obj C hl.1 kX6_1 im_objectInit cd_objectInit dX6_init_1 (by show 1 ≤ d; omega) (by show 0 + 12 ≤ 64 * d; omega) ?_
  refine lv_aload_n C.1 C.2.1 dX6_init_4 rfl (lv_at hl 0 rfl) ?_
  refine lv_bipush (v := 24) C.1 C.2.1 dX6_init_5 rfl ?_
  refine kn_newI C hP hD hS 24 (by decide) rfl (by decide) (Nat.le_of_ble_eq_true rfl) (Nat.le_of_ble_eq_true rfl) dX6_init_7 (fun q0 H hP hD hS => ?_)
  refine kn_putF (ty := vq_tyf 6 0) 0 6 0 (by decide) C hin hP hD hS rfl (by decide) rfl rfl rfl rfl rfl (Nat.le_of_ble_eq_true rfl) (inWS f_X6_9) dX6_init_9 (fun H locs hP hD hS => ?_)
  have hP : va_P D vwCl [(h0, .inr (6, [.ref q0, .null, .null, .null, .int 0])), (q0, zI cs 24)] H := hP
  have hD : va_D A [(h0, .inr (6, [.ref q0, .null, .null, .null, .int 0])), (q0, zI cs 24)] := hD
  refine lv_aload_n C.1 C.2.1 dX6_init_12 rfl (lv_at hl 0 rfl) ?_
  refine lv_sipush (v := 192) C.1 C.2.1 dX6_init_13 rfl ?_
  refine kn_newI C hP hD hS 192 (by decide) rfl (by decide) (Nat.le_of_ble_eq_true rfl) (Nat.le_of_ble_eq_true rfl) dX6_init_16 (fun q1 H hP hD hS => ?_)
  refine kn_putF (ty := vq_tyf 6 1) 0 6 1 (by decide) C hin hP hD hS rfl (by decide) rfl rfl rfl rfl rfl (Nat.le_of_ble_eq_true rfl) (inWS f_X6_13) dX6_init_18 (fun H locs hP hD hS => ?_)
  have hP : va_P D vwCl [(h0, .inr (6, [.ref q0, .ref q1, .null, .null, .int 0])), (q0, zI cs 24), (q1, zI cs 192)] H := hP
  have hD : va_D A [(h0, .inr (6, [.ref q0, .ref q1, .null, .null, .int 0])), (q0, zI cs 24), (q1, zI cs 192)] := hD
  refine lv_aload_n C.1 C.2.1 dX6_init_21 rfl (lv_at hl 0 rfl) ?_
  refine lv_sipush (v := 192) C.1 C.2.1 dX6_init_22 rfl ?_
  refine kn_newI C hP hD hS 192 (by decide) rfl (by decide) (Nat.le_of_ble_eq_true rfl) (Nat.le_of_ble_eq_true rfl) dX6_init_25 (fun q2 H hP hD hS => ?_)
  refine kn_putF (ty := vq_tyf 6 2) 0 6 2 (by decide) C hin hP hD hS rfl (by decide) rfl rfl rfl rfl rfl (Nat.le_of_ble_eq_true rfl) (inWS f_X6_16) dX6_init_27 (fun H locs hP hD hS => ?_)
  have hP : va_P D vwCl [(h0, .inr (6, [.ref q0, .ref q1, .ref q2, .null, .int 0])), (q0, zI cs 24), (q1, zI cs 192), (q2, zI cs 192)] H := hP
  have hD : va_D A [(h0, .inr (6, [.ref q0, .ref q1, .ref q2, .null, .int 0])), (q0, zI cs 24), (q1, zI cs 192), (q2, zI cs 192)] := hD
  refine lv_aload_n C.1 C.2.1 dX6_init_30 rfl (lv_at hl 0 rfl) ?_
  refine lv_sipush (v := 192) C.1 C.2.1 dX6_init_31 rfl ?_
  refine kn_newI C hP hD hS 192 (by decide) rfl (by decide) (Nat.le_of_ble_eq_true rfl) (Nat.le_of_ble_eq_true rfl) dX6_init_34 (fun q3 H hP hD hS => ?_)
  refine kn_putF (ty := vq_tyf 6 3) 0 6 3 (by decide) C hin hP hD hS rfl (by decide) rfl rfl rfl rfl rfl (Nat.le_of_ble_eq_true rfl) (inWS f_X6_19) dX6_init_36 (fun H locs hP hD hS => ?_)
  have hP : va_P D vwCl [(h0, .inr (6, [.ref q0, .ref q1, .ref q2, .ref q3, .int 0])), (q0, zI cs 24), (q1, zI cs 192), (q2, zI cs 192), (q3, zI cs 192)] H := hP
  have hD : va_D A [(h0, .inr (6, [.ref q0, .ref q1, .ref q2, .ref q3, .int 0])), (q0, zI cs 24), (q1, zI cs 192), (q2, zI cs 192), (q3, zI cs 192)] := hD
  exact kn_ret (tl := [(q0, zI cs 24), (q1, zI cs 192), (q2, zI cs 192), (q3, zI cs 192)]) C hr hlk dX6_init_39 (Nat.le_refl _) (Nat.le_refl _) hP hD hS ⟨q0, q1, q2, q3, rfl, rfl⟩
def Ps2 (cs : vq_S) (h0 : Nat) (fs : List Value) (tl : va_W) : Prop := ∃ q0 q1 q2 q3 q4 q5 : Nat, fs = [.ref q0, .ref q1, .ref q2, .ref q3, .ref q4, .ref q5, .int 0] ∧ tl = [(q0, zI cs 32), (q1, zI cs 32), (q2, zI cs 32), (q3, zZ cs 32), (q4, zI cs 32), (q5, zI cs 192)]
set_option maxHeartbeats 2000000 in
theorem k_init2 (hd : 1 ≤ d) : KC l m_X2_init d 6 352 2 [.null, .null, .null, .null, .null, .null, .int 0] [] Ps2 := by
  refine KC_of (fun h0 => [(0, .ref h0)]) (by decide) rfl rfl (fun h0 => Nat.le_of_ble_eq_true rfl) (fun h0 => rfl) ?_
  intro p e s m args below meth c h0 cs D A ls C hr hlk hin hP hD hS hl
  refine lv_aload_n C.1 C.2.1 dX2_init_0 rfl (lv_at hl 0 rfl) ?_
  refine kn_obj C hl.1 kX2_1 im_objectInit cd_objectInit dX2_init_1 (by show 1 ≤ d; omega) (by show 0 + 12 ≤ 64 * d; omega) ?_
  refine lv_aload_n C.1 C.2.1 dX2_init_4 rfl (lv_at hl 0 rfl) ?_
  refine lv_bipush (v := 32) C.1 C.2.1 dX2_init_5 rfl ?_
  refine kn_newI C hP hD hS 32 (by decide) rfl (by decide) (Nat.le_of_ble_eq_true rfl) (Nat.le_of_ble_eq_true rfl) dX2_init_7 (fun q0 H hP hD hS => ?_)
  refine kn_putF (ty := vq_tyf 2 0) 0 2 0 (by decide) C hin hP hD hS rfl (by decide) rfl rfl rfl rfl rfl (Nat.le_of_ble_eq_true rfl) (inWS f_X2_9) dX2_init_9 (fun H locs hP hD hS => ?_)
  have hP : va_P D vwCl [(h0, .inr (2, [.ref q0, .null, .null, .null, .null, .null, .int 0])), (q0, zI cs 32)] H := hP
  have hD : va_D A [(h0, .inr (2, [.ref q0, .null, .null, .null, .null, .null, .int 0])), (q0, zI cs 32)] := hD
  refine lv_aload_n C.1 C.2.1 dX2_init_12 rfl (lv_at hl 0 rfl) ?_
  refine lv_bipush (v := 32) C.1 C.2.1 dX2_init_13 rfl ?_
  refine kn_newI C hP hD hS 32 (by decide) rfl (by decide) (Nat.le_of_ble_eq_true rfl) (Nat.le_of_ble_eq_true rfl) dX2_init_15 (fun q1 H hP hD hS => ?_)
  refine kn_putF (ty := vq_tyf 2 1) 0 2 1 (by decide) C hin hP hD hS rfl (by decide) rfl rfl rfl rfl rfl (Nat.le_of_ble_eq_true rfl) (inWS f_X2_13) dX2_init_17 (fun H locs hP hD hS => ?_)
  have hP : va_P D vwCl [(h0, .inr (2, [.ref q0, .ref q1, .null, .null, .null, .null, .int 0])), (q0, zI cs 32), (q1, zI cs 32)] H := hP
  have hD : va_D A [(h0, .inr (2, [.ref q0, .ref q1, .null, .null, .null, .null, .int 0])), (q0, zI cs 32), (q1, zI cs 32)] := hD
  refine lv_aload_n C.1 C.2.1 dX2_init_20 rfl (lv_at hl 0 rfl) ?_
  refine lv_bipush (v := 32) C.1 C.2.1 dX2_init_21 rfl ?_
  refine kn_newI C hP hD hS 32 (by decide) rfl (by decide) (Nat.le_of_ble_eq_true rfl) (Nat.le_of_ble_eq_true rfl) dX2_init_23 (fun q2 H hP hD hS => ?_)
  refine kn_putF (ty := vq_tyf 2 2) 0 2 2 (by decide) C hin hP hD hS rfl (by decide) rfl rfl rfl rfl rfl (Nat.le_of_ble_eq_true rfl) (inWS f_X2_16) dX2_init_25 (fun H locs hP hD hS => ?_)
  have hP : va_P D vwCl [(h0, .inr (2, [.ref q0, .ref q1, .ref q2, .null, .null, .null, .int 0])), (q0, zI cs 32), (q1, zI cs 32), (q2, zI cs 32)] H := hP
  have hD : va_D A [(h0, .inr (2, [.ref q0, .ref q1, .ref q2, .null, .null, .null, .int 0])), (q0, zI cs 32), (q1, zI cs 32), (q2, zI cs 32)] := hD
  refine lv_aload_n C.1 C.2.1 dX2_init_28 rfl (lv_at hl 0 rfl) ?_
  refine lv_bipush (v := 32) C.1 C.2.1 dX2_init_29 rfl ?_
  refine kn_newZ C hP hD hS 32 (by decide) rfl (by decide) (Nat.le_of_ble_eq_true rfl) (Nat.le_of_ble_eq_true rfl) dX2_init_31 (fun q3 H hP hD hS => ?_)
  refine kn_putF (ty := vq_tyf 2 3) 0 2 3 (by decide) C hin hP hD hS rfl (by decide) rfl rfl rfl rfl rfl (Nat.le_of_ble_eq_true rfl) (inWS f_X2_19) dX2_init_33 (fun H locs hP hD hS => ?_)
  have hP : va_P D vwCl [(h0, .inr (2, [.ref q0, .ref q1, .ref q2, .ref q3, .null, .null, .int 0])), (q0, zI cs 32), (q1, zI cs 32), (q2, zI cs 32), (q3, zZ cs 32)] H := hP
  have hD : va_D A [(h0, .inr (2, [.ref q0, .ref q1, .ref q2, .ref q3, .null, .null, .int 0])), (q0, zI cs 32), (q1, zI cs 32), (q2, zI cs 32), (q3, zZ cs 32)] := hD
  refine lv_aload_n C.1 C.2.1 dX2_init_36 rfl (lv_at hl 0 rfl) ?_
  refine lv_bipush (v := 32) C.1 C.2.1 dX2_init_37 rfl ?_
  refine kn_newI C hP hD hS 32 (by decide) rfl (by decide) (Nat.le_of_ble_eq_true rfl) (Nat.le_of_ble_eq_true rfl) dX2_init_39 (fun q4 H hP hD hS => ?_)
  refine kn_putF (ty := vq_tyf 2 4) 0 2 4 (by decide) C hin hP hD hS rfl (by decide) rfl rfl rfl rfl rfl (Nat.le_of_ble_eq_true rfl) (inWS f_X2_23) dX2_init_41 (fun H locs hP hD hS => ?_)
  have hP : va_P D vwCl [(h0, .inr (2, [.ref q0, .ref q1, .ref q2, .ref q3, .ref q4, .null, .int 0])), (q0, zI cs 32), (q1, zI cs 32), (q2, zI cs 32), (q3, zZ cs 32), (q4, zI cs 32)] H := hP
  have hD : va_D A [(h0, .inr (2, [.ref q0, .ref q1, .ref q2, .ref q3, .ref q4, .null, .int 0])), (q0, zI cs 32), (q1, zI cs 32), (q2, zI cs 32), (q3, zZ cs 32), (q4, zI cs 32)] := hD
  refine lv_aload_n C.1 C.2.1 dX2_init_44 rfl (lv_at hl 0 rfl) ?_
  refine lv_sipush (v := 192) C.1 C.2.1 dX2_init_45 rfl ?_
  refine kn_newI C hP hD hS 192 (by decide) rfl (by decide) (Nat.le_of_ble_eq_true rfl) (Nat.le_of_ble_eq_true rfl) dX2_init_48 (fun q5 H hP hD hS => ?_)
  refine kn_putF (ty := vq_tyf 2 5) 0 2 5 (by decide) C hin hP hD hS rfl (by decide) rfl rfl rfl rfl rfl (Nat.le_of_ble_eq_true rfl) (inWS f_X2_26) dX2_init_50 (fun H locs hP hD hS => ?_)
  have hP : va_P D vwCl [(h0, .inr (2, [.ref q0, .ref q1, .ref q2, .ref q3, .ref q4, .ref q5, .int 0])), (q0, zI cs 32), (q1, zI cs 32), (q2, zI cs 32), (q3, zZ cs 32), (q4, zI cs 32), (q5, zI cs 192)] H := hP
  have hD : va_D A [(h0, .inr (2, [.ref q0, .ref q1, .ref q2, .ref q3, .ref q4, .ref q5, .int 0])), (q0, zI cs 32), (q1, zI cs 32), (q2, zI cs 32), (q3, zZ cs 32), (q4, zI cs 32), (q5, zI cs 192)] := hD
  exact kn_ret (tl := [(q0, zI cs 32), (q1, zI cs 32), (q2, zI cs 32), (q3, zZ cs 32), (q4, zI cs 32), (q5, zI cs 192)]) C hr hlk dX2_init_53 (Nat.le_refl _) (Nat.le_refl _) hP hD hS ⟨q0, q1, q2, q3, q4, q5, rfl, rfl⟩
def Ps0 (cs : vq_S) (h0 : Nat) (fs : List Value) (tl : va_W) : Prop := ∃ q0 q1 q2 q3 q4 : Nat, fs = [.ref q0, .ref q1, .ref q2, .ref q3, .ref q4, .int 0, .int 0] ∧ tl = [(q0, zI cs 16), (q1, zI cs 16), (q2, zI cs 96), (q3, zI cs 96), (q4, zI cs 96)]
set_option maxHeartbeats 2000000 in
theorem k_init0 (hd : 1 ≤ d) : KC l m_X0_init d 5 320 0 [.null, .null, .null, .null, .null, .int 0, .int 0] [] Ps0 := by
  refine KC_of (fun h0 => [(0, .ref h0)]) (by decide) rfl rfl (fun h0 => Nat.le_of_ble_eq_true rfl) (fun h0 => rfl) ?_
  intro p e s m args below meth c h0 cs D A ls C hr hlk hin hP hD hS hl
  refine lv_aload_n C.1 C.2.1 dX0_init_0 rfl (lv_at hl 0 rfl) ?_
  refine kn_obj C hl.1 kX0_1 im_objectInit cd_objectInit dX0_init_1 (by show 1 ≤ d; omega) (by show 0 + 12 ≤ 64 * d; omega) ?_
  refine lv_aload_n C.1 C.2.1 dX0_init_4 rfl (lv_at hl 0 rfl) ?_
  refine lv_bipush (v := 16) C.1 C.2.1 dX0_init_5 rfl ?_
  refine kn_newI C hP hD hS 16 (by decide) rfl (by decide) (Nat.le_of_ble_eq_true rfl) (Nat.le_of_ble_eq_true rfl) dX0_init_7 (fun q0 H hP hD hS => ?_)
  refine kn_putF (ty := vq_tyf 0 0) 0 0 0 (by decide) C hin hP hD hS rfl (by decide) rfl rfl rfl rfl rfl (Nat.le_of_ble_eq_true rfl) (inWS f_X0_9) dX0_init_9 (fun H locs hP hD hS => ?_)
  have hP : va_P D vwCl [(h0, .inr (0, [.ref q0, .null, .null, .null, .null, .int 0, .int 0])), (q0, zI cs 16)] H := hP
  have hD : va_D A [(h0, .inr (0, [.ref q0, .null, .null, .null, .null, .int 0, .int 0])), (q0, zI cs 16)] := hD
  refine lv_aload_n C.1 C.2.1 dX0_init_12 rfl (lv_at hl 0 rfl) ?_
  refine lv_bipush (v := 16) C.1 C.2.1 dX0_init_13 rfl ?_
  refine kn_newI C hP hD hS 16 (by decide) rfl (by decide) (Nat.le_of_ble_eq_true rfl) (Nat.le_of_ble_eq_true rfl) dX0_init_15 (fun q1 H hP hD hS => ?_)
  refine kn_putF (ty := vq_tyf 0 1) 0 0 1 (by decide) C hin hP hD hS rfl (by decide) rfl rfl rfl rfl rfl (Nat.le_of_ble_eq_true rfl) (inWS f_X0_13) dX0_init_17 (fun H locs hP hD hS => ?_)
  have hP : va_P D vwCl [(h0, .inr (0, [.ref q0, .ref q1, .null, .null, .null, .int 0, .int 0])), (q0, zI cs 16), (q1, zI cs 16)] H := hP
  have hD : va_D A [(h0, .inr (0, [.ref q0, .ref q1, .null, .null, .null, .int 0, .int 0])), (q0, zI cs 16), (q1, zI cs 16)] := hD
  refine lv_aload_n C.1 C.2.1 dX0_init_20 rfl (lv_at hl 0 rfl) ?_
  refine lv_bipush (v := 96) C.1 C.2.1 dX0_init_21 rfl ?_
  refine kn_newI C hP hD hS 96 (by decide) rfl (by decide) (Nat.le_of_ble_eq_true rfl) (Nat.le_of_ble_eq_true rfl) dX0_init_23 (fun q2 H hP hD hS => ?_)
  refine kn_putF (ty := vq_tyf 0 2) 0 0 2 (by decide) C hin hP hD hS rfl (by decide) rfl rfl rfl rfl rfl (Nat.le_of_ble_eq_true rfl) (inWS f_X0_16) dX0_init_25 (fun H locs hP hD hS => ?_)
  have hP : va_P D vwCl [(h0, .inr (0, [.ref q0, .ref q1, .ref q2, .null, .null, .int 0, .int 0])), (q0, zI cs 16), (q1, zI cs 16), (q2, zI cs 96)] H := hP
  have hD : va_D A [(h0, .inr (0, [.ref q0, .ref q1, .ref q2, .null, .null, .int 0, .int 0])), (q0, zI cs 16), (q1, zI cs 16), (q2, zI cs 96)] := hD
  refine lv_aload_n C.1 C.2.1 dX0_init_28 rfl (lv_at hl 0 rfl) ?_
  refine lv_bipush (v := 96) C.1 C.2.1 dX0_init_29 rfl ?_
  refine kn_newI C hP hD hS 96 (by decide) rfl (by decide) (Nat.le_of_ble_eq_true rfl) (Nat.le_of_ble_eq_true rfl) dX0_init_31 (fun q3 H hP hD hS => ?_)
  refine kn_putF (ty := vq_tyf 0 3) 0 0 3 (by decide) C hin hP hD hS rfl (by decide) rfl rfl rfl rfl rfl (Nat.le_of_ble_eq_true rfl) (inWS f_X0_19) dX0_init_33 (fun H locs hP hD hS => ?_)
  have hP : va_P D vwCl [(h0, .inr (0, [.ref q0, .ref q1, .ref q2, .ref q3, .null, .int 0, .int 0])), (q0, zI cs 16), (q1, zI cs 16), (q2, zI cs 96), (q3, zI cs 96)] H := hP
  have hD : va_D A [(h0, .inr (0, [.ref q0, .ref q1, .ref q2, .ref q3, .null, .int 0, .int 0])), (q0, zI cs 16), (q1, zI cs 16), (q2, zI cs 96), (q3, zI cs 96)] := hD
  refine lv_aload_n C.1 C.2.1 dX0_init_36 rfl (lv_at hl 0 rfl) ?_
  refine lv_bipush (v := 96) C.1 C.2.1 dX0_init_37 rfl ?_
  refine kn_newI C hP hD hS 96 (by decide) rfl (by decide) (Nat.le_of_ble_eq_true rfl) (Nat.le_of_ble_eq_true rfl) dX0_init_39 (fun q4 H hP hD hS => ?_)
  refine kn_putF (ty := vq_tyf 0 4) 0 0 4 (by decide) C hin hP hD hS rfl (by decide) rfl rfl rfl rfl rfl (Nat.le_of_ble_eq_true rfl) (inWS f_X0_22) dX0_init_41 (fun H locs hP hD hS => ?_)
  have hP : va_P D vwCl [(h0, .inr (0, [.ref q0, .ref q1, .ref q2, .ref q3, .ref q4, .int 0, .int 0])), (q0, zI cs 16), (q1, zI cs 16), (q2, zI cs 96), (q3, zI cs 96), (q4, zI cs 96)] H := hP
  have hD : va_D A [(h0, .inr (0, [.ref q0, .ref q1, .ref q2, .ref q3, .ref q4, .int 0, .int 0])), (q0, zI cs 16), (q1, zI cs 16), (q2, zI cs 96), (q3, zI cs 96), (q4, zI cs 96)] := hD
  exact kn_ret (tl := [(q0, zI cs 16), (q1, zI cs 16), (q2, zI cs 96), (q3, zI cs 96), (q4, zI cs 96)]) C hr hlk dX0_init_44 (Nat.le_refl _) (Nat.le_refl _) hP hD hS ⟨q0, q1, q2, q3, q4, rfl, rfl⟩
end KCL
