theorem zz_9r_even : True := trivial
