theorem zz_9s_even : True := trivial
