noncomputable def jd_403 (L : Nat) (xs : Nat → Int32)  (h : jH) : Option (Int × jH) :=
  ((jnw h 11).bind fun n1 => ((jd_139 n1.1 n1.2).bind fun h3 => ((jnw h3 12).bind fun n5 => ((jd_202 n5.1 n5.2).bind fun h7 => ((jna h7 3 1).bind fun n9 => ((jd_403_l23 L xs (some n1.1) (some n5.1) (some n9.1) 0 n9.2).bind fun x1388 => some (1, x1388)))))))
