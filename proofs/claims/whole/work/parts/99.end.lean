theorem b_test (d : Nat) (x : Int32) (h : z_H) : EX d 0 0 [z_I x, z_U, z_U, z_U, z_U] [] h = EX d 0 6 [z_I x, z_I 0, z_I x, z_I 0, z_U] [] h :=
  EX_L d 0 [iV 1 (.iconst 0) 0, i0 1 (.istore_n 1), i0 1 (.iload_n 0), i0 1 (.istore_n 2), iV 1 (.iconst 0) 0, i0 1 (.istore_n 3)] 0 (by decide +kernel) _ _ _
