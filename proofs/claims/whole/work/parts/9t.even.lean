theorem zz_9t_even : True := trivial
