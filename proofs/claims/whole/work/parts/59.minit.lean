section MInit
variable {Q : Wd → Prop}
theorem I_X11 (h : Q (mW (bgR (fun _ => 0) 10) (fun _ => 0) (fun _ => 0) (fun _ => 0) (fun _ => 0))) : CallV kX11_init [.ref 16] [ob 11 [.null, .null, .int 0, .null, .int 0, .int 0, .int 0, .int 0, .int 0, .int 0, .int 0, .null, .int 0]] Q := by
  refine e_X11_init ?_
  refine iX11_init_0 (iX11_init_1 (Nat.le_of_ble_eq_true rfl) (iX11_init_4 (iX11_init_5 (iX11_init_8 (by decide) (by decide) rfl (iX11_init_10 rfl (Nat.le_of_ble_eq_true rfl) (iX11_init_13 (iX11_init_14 (iX11_init_17 (by decide) (by decide) rfl (iX11_init_19 rfl (Nat.le_of_ble_eq_true rfl) (iX11_init_22 (iX11_init_23 (iX11_init_24 (by decide) (by decide) rfl (iX11_init_26 rfl (Nat.le_of_ble_eq_true rfl) (iX11_init_29 (iX11_init_30 (iX11_init_33 (by decide) (by decide) rfl (iX11_init_35 rfl (Nat.le_of_ble_eq_true rfl) (iX11_init_38 (iX11_init_39 ?_)))))))))))))))))))
  change V kX11_init 41 _ [.int (nI 10), .ref 16] (mW (fun _ => 0) (fun _ => 0) (fun _ => 0) (fun _ => 0) (fun _ => 0)) 4 754 _
  refine iX11_init_41 rfl (Nat.le_of_ble_eq_true rfl) (by decide) (by decide) (M_begin (by decide) ?_)
  exact iX11_init_44 (by decide) (by decide) h
end MInit
