theorem q_zz : True := trivial
