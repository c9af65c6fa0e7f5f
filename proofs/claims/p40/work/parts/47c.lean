section zz47t_wayby

end zz47t_wayby
section zz47v_bits
/-! bits of sounds; what a turning makes true -/
def bt (x s : Int) : Int := andI (shrI x s) 1
theorem bt_b (x s : Int) : 0 ≤ bt x s ∧ bt x s ≤ 1 := andI_br (shrI x s) (c := 1) (by decide) (by decide)
end zz47v_bits
