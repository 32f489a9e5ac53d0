/-! The line of a layer, of a network that the reference shows. By hand. -/
theorem zs_MP {S : zz_S} {v : zn_T} {p n n1 : Int} {f f1 : Nat → Int} (hM : zn_M S v) (hV : zn_V v) (hW : zn_W v) (hQ : zs_Q v) (p1 : 1 ≤ p) (p2 : p < v 15 0) (w : zs_SL S (p - 1) n f n1 f1) (h0 : zs_P n f []) : zs_P n1 f1 (zs_op (zs_hd (v 0 p.toNat) (v 1 p.toNat) (v 2 p.toNat) (v 3 p.toNat) (v 4 p.toNat) (v 12 p.toNat) (v 9 p.toNat) (v 10 p.toNat) (v 11 p.toNat)) (v 5 p.toNat) (v 6 p.toNat) (v 7 p.toNat) (v 8 p.toNat)) := by
  have l := hM.2.2.2 (p - 1).toNat (by omega)
  have t := hM.2.2.1 p.toNat (by omega)
  have e : (p - 1).toNat + 1 = p.toNat := by omega
  unfold zn_ML at l
  rw [e] at l
  obtain ⟨l0, l1, l2, l3, l4, l5, l6, l7, l9⟩ := l
  exact w _ _ _ _ _ _ _ _ _ _ _ _ _ (hQ.lq hV hW (by omega) p2) (hQ.lx hW p1 p2) (by omega) l1 l2 l3 l4 (by rw [show p - 1 + 1 = p by omega]; exact t.2.2.1) l9 l5 l6 l7 h0
